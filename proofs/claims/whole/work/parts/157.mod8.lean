/-! PRICE BY ROOTS, part by part -/
/-- the first of its part -/
noncomputable def bb_R1 (W : pp_W) (r : Int) : Bool := @decide (∀ q : Int, 0 ≤ q → q < r → ¬ pp_cn W q r) (Classical.propDecidable _)
theorem bb_R1_t {W : pp_W} {r : Int} : bb_R1 W r = true ↔ ∀ q : Int, 0 ≤ q → q < r → ¬ pp_cn W q r := @decide_eq_true_iff _ (Classical.propDecidable _)
theorem bb_R1_RT {n : Int} {W : pp_W} : pp_RT n W (bb_R1 W) := by
  constructor
  · have key : ∀ (m : Nat) (u q : Int), q.toNat ≤ m → 0 ≤ q → q < n → pp_cn W q u → ∃ r, bb_R1 W r = true ∧ 0 ≤ r ∧ r < n ∧ pp_cn W r u := by
      intro m
      induction m with
      | zero =>
        intro u q hm q0 q1 h
        exact ⟨q, bb_R1_t.mpr (fun x x0 x1 => by omega), q0, q1, h⟩
      | succ m ih =>
        intro u q hm q0 q1 h
        by_cases z : ∃ x : Int, 0 ≤ x ∧ x < q ∧ pp_cn W x q
        · obtain ⟨x, x0, x1, x2⟩ := z
          exact ih u x (by omega) x0 (by omega) (pp_cn_tr x2 h)
        · exact ⟨q, bb_R1_t.mpr (fun x x0 x1 y => z ⟨x, x0, x1, y⟩), q0, q1, h⟩
    intro u u0 u1
    exact key u.toNat u u (Nat.le_refl _) u0 u1 (pp_cn_rf W u)
  · intro r q hr hq r0 r1 q0 q1 h
    by_cases z : r < q
    · exact absurd h (bb_R1_t.mp hq r r0 z)
    · by_cases y : q < r
      · exact absurd (pp_cn_sy h) (bb_R1_t.mp hr q q0 y)
      · omega
/-- what a part costs at least, in the model -/
def bb_ml (f wd : Int → Int) (H : Int) (l : Int → Int) : Prop := ∀ r : Int, 0 ≤ r → r < (f 0) → 0 ≤ l r ∧ pp_mi 1000000000 (fun v => ∃ t, pp_FE (f 0) 1000000000 (pp_Wr f) (fun _ => H) (fun u => f (3 + 7 * u + 2)) (fun u => f (3 + 7 * u + 0)) (bb_mo f) r (-1) t ∧ v = pp_SU (f 0) (pp_Wr f) (fun u => f (3 + 7 * u + 2)) (fun u => f (3 + 7 * u + 0)) (bb_mo f) (bb_mp f wd) r (-1) t) (l r)
section
variable {E : mm_E} {d B : Nat} {S : mm_S} {c : mm_N} {f wd : Int → Int} {H : Int}
theorem bb_mSU_nn {s p : Int} {t : Int → Int} (hM : bb_MC S f wd H) : 0 ≤ pp_SU (f 0) (pp_Wr f) (fun u => f (3 + 7 * u + 2)) (fun u => f (3 + 7 * u + 0)) (bb_mo f) (bb_mp f wd) s p t := by
  apply pp_sm_nn
  intro u u1 u2
  show 0 ≤ if pp_sb (pp_Wr f) s p u = true then _ else (0 : Int)
  by_cases q : pp_sb (pp_Wr f) s p u = true
  · rw [if_pos q]
    exact Int.add_nonneg (bb_mo_r f u (t u)).1 (bb_mp_nn hM u1 (by omega) _)
  · rw [if_neg q]; exact Int.le_refl 0
theorem bb_ml_ex (hM : bb_MC S f wd H) : ∃ l, bb_ml f wd H l := by
  have ex : ∀ r : Int, ∃ m, 0 ≤ r → r < (f 0) → 0 ≤ m ∧ pp_mi 1000000000 (fun v => ∃ t, pp_FE (f 0) 1000000000 (pp_Wr f) (fun _ => H) (fun u => f (3 + 7 * u + 2)) (fun u => f (3 + 7 * u + 0)) (bb_mo f) r (-1) t ∧ v = pp_SU (f 0) (pp_Wr f) (fun u => f (3 + 7 * u + 2)) (fun u => f (3 + 7 * u + 0)) (bb_mo f) (bb_mp f wd) r (-1) t) m := by
    intro r
    have nn : ∀ y, (∃ t, pp_FE (f 0) 1000000000 (pp_Wr f) (fun _ => H) (fun u => f (3 + 7 * u + 2)) (fun u => f (3 + 7 * u + 0)) (bb_mo f) r (-1) t ∧ y = pp_SU (f 0) (pp_Wr f) (fun u => f (3 + 7 * u + 2)) (fun u => f (3 + 7 * u + 0)) (bb_mo f) (bb_mp f wd) r (-1) t) → 0 ≤ y := by
      rintro y ⟨t, t1, rfl⟩
      exact bb_mSU_nn hM
    obtain ⟨m, hm⟩ := bb_mi_has (F := 1000000000) (by omega) nn
    exact ⟨m, fun _ _ => ⟨pp_mi_nn hm (by omega) nn, hm⟩⟩
  obtain ⟨l, hl⟩ := Classical.axiomOfChoice ex
  exact ⟨l, hl⟩
theorem bb_mW1 (s : Int) : (pp_Wr f) (-1) s = false := by
  cases q : (pp_Wr f) (-1) s with
  | false => rfl
  | true => have := pp_Wr_in f _ _ q; omega
theorem bb_mroot {s : Int} (hM : bb_MC S f wd H) (h : bb_mk S f wd H s (-1)) : pp_mi 1000000000 (fun v => ∃ t, pp_FE (f 0) 1000000000 (pp_Wr f) (fun _ => H) (fun u => f (3 + 7 * u + 2)) (fun u => f (3 + 7 * u + 0)) (bb_mo f) s (-1) t ∧ v = pp_SU (f 0) (pp_Wr f) (fun u => f (3 + 7 * u + 2)) (fun u => f (3 + 7 * u + 0)) (bb_mo f) (bb_mp f wd) s (-1) t) (pp_mr 1000000000 (fun i => S.A 108 (120 * s + i)) (H + 1).toNat) := by
  have hH2 := hM.2.2.2.1
  have w := bb_mW1 (f := f) s
  rw [bb_mr_cap]
  refine pp_mi_to (pp_mr_mi 1000000000 (fun i => bb_mc S s i) (H + 1).toNat) ?_ ?_
  · rintro _ ⟨t, t1, rfl⟩
    have g := t1 s (pp_sd_rf _ s (-1))
    exact ⟨_, ⟨t s, g.1, by have : t s ≤ H := g.2.1; omega, rfl⟩, ((h (t s) g.1 g.2.1).2.2 w).2.1 _ ⟨t, t1, rfl, rfl⟩⟩
  · rintro hlt ⟨i, i0, i1, e⟩
    rcases ((h i i0 (by omega)).2.2 w).2.2 with z | ⟨t, t1, _, t3⟩
    · have e : pp_mr 1000000000 (fun i => min 1000000000 (S.A 108 (120 * s + i))) (H + 1).toNat = bb_mc S s i := e
      omega
    · exact ⟨t, t1, e.trans t3⟩
theorem l_least0 {s : Int} {x1 x2 : Int} {k : Int} (hd : 1 ≤ d) (hM : bb_MC S f wd H) (s0 : 0 ≤ s) (s1 : s < 12) (hk : bb_mk S f wd H s (-1)) (hs : 0 ≤ x2 ∧ x2 < 2 * 1000000000) : ∀ (j n : Nat) (t : Int), 0 ≤ t → t + j = H + 1 → j < n → ∃ (n' : Nat) (o4 o5 : Option Value), n ≤ n' + j + 1 ∧ mm_r196_56 E (mm_ev E d) n (mm_ad B 101) (mm_i x1) (mm_i x2) (mm_i s) (mm_i (pp_mr 1000000000 (fun i => S.A 108 (120 * s + i)) t.toNat)) (mm_i t) (mm_hp B S c) = mm_r196_6 E (mm_ev E d) n' (mm_ad B 101) (mm_i x1) (mm_i (bb_pl x2 (pp_mr 1000000000 (fun i => S.A 108 (120 * s + i)) (H + 1).toNat))) (mm_i (s + 1)) o4 o5 (mm_hp B S c) := by
  have hH := hM.2.2.1
  have hH2 := hM.2.2.2.1
  have mb : ∀ t : Int, t ≤ H + 1 → 0 ≤ pp_mr 1000000000 (fun i => S.A 108 (120 * s + i)) t.toNat ∧ pp_mr 1000000000 (fun i => S.A 108 (120 * s + i)) t.toNat ≤ 1000000000 := fun t t1 => by
    have g := pp_mr_mi 1000000000 (fun i => S.A 108 (120 * s + i)) t.toNat
    refine ⟨pp_mi_nn g (by omega) ?_, g.1⟩
    rintro x ⟨i, i0, i1, rfl⟩
    exact (hk i i0 (by omega)).1.1
  intro j
  induction j with
  | zero =>
    intro n t t0 tj hn
    obtain ⟨n, rfl⟩ : ∃ q, n = q + 1 := ⟨n - 1, by omega⟩
    have m := mb (H + 1) (by omega)
    refine ⟨n, some (.int (mm_i (pp_mr 1000000000 (fun i => S.A 108 (120 * s + i)) t.toNat))), some (.int (mm_i t)), by omega, ?_⟩
    rw [show t = H + 1 by omega, mm_e196_56]
    simp (disch := omega) only [mm_ptM, hH, mm_br_lt]
    rw [if_pos (by omega), m_plus hd (by omega) (by omega) (by omega) (by omega), mm_cI_ok, mm_i_add]
  | succ j ih =>
    intro n t t0 tj hn
    obtain ⟨n, rfl⟩ : ∃ q, n = q + 1 := ⟨n - 1, by omega⟩
    have m := mb t (by omega)
    have r := (hk t t0 (by omega)).1
    have e1 : pp_mr 1000000000 (fun i => S.A 108 (120 * s + i)) (t + 1).toNat = min (pp_mr 1000000000 (fun i => S.A 108 (120 * s + i)) t.toNat) (S.A 108 (120 * s + t)) := by
      rw [show (t + 1).toNat = t.toNat + 1 by omega]
      show min _ (S.A 108 (120 * s + (t.toNat : Int))) = _
      rw [show ((t.toNat : Nat) : Int) = t by omega]
    obtain ⟨n', o4, o5, a1, a2⟩ := ih n (t + 1) (by omega) (by omega) (by omega)
    refine ⟨n', o4, o5, by omega, ?_⟩
    rw [← a2, e1, mm_e196_56]
    simp (disch := omega) only [mm_ptM, hH, mm_br_lt, mm_hm]
    rw [if_neg (by omega), mm_i_mn (by omega) (by omega) (by omega) (by omega)]
/-- what the search leaves as it was -/
def bb_PF (S T : mm_S) : Prop := T.I = S.I ∧ T.J = S.J ∧ T.L = S.L ∧ (∀ x, ¬ (107 ≤ x ∧ x ≤ 113) → T.A x = S.A x)
theorem l_byRoots {l : Int → Int} (hd : 17 ≤ d) (hM : bb_MC S f wd H) (hl : bb_ml f wd H l) : ∀ (j i n : Nat) (dn sm : Int) (T : mm_S) (o4 o5 : Option Value), (f 0).toNat = i + j → 130 * (j + 1) ≤ n → bb_PF S T → (0 ≤ dn ∧ dn < 4096) → (∀ u : Int, 0 ≤ u → u < f 0 → (mm_bt dn u = true ↔ ∃ q : Int, 0 ≤ q ∧ q < i ∧ pp_cn (pp_Wr f) q u)) → (0 ≤ sm ∧ sm < 2 * 1000000000) → min 1000000000 sm = min 1000000000 (pp_sm (fun r => if bb_R1 (pp_Wr f) r = true then l r else 0) i) →
    ∃ (T' : mm_S) (v : Int), bb_PF S T' ∧ (0 ≤ v ∧ v < 2 * 1000000000) ∧ min 1000000000 v = min 1000000000 (pp_sm (fun r => if bb_R1 (pp_Wr f) r = true then l r else 0) (f 0).toNat) ∧ mm_r196_6 E (mm_ev E d) n (mm_ad B 101) (mm_i dn) (mm_i sm) (mm_i (i : Int)) o4 o5 (mm_hp B T c) = mm_oI (if v < 1000000000 then v else -1) (mm_hp B T' c) := by
  have n12 := hM.2.1.1
  have hR := hM.2.1
  have hH2 := hM.2.2.2.1
  have hin := pp_Wr_in f
  intro j
  induction j with
  | zero =>
    intro i n dn sm T o4 o5 ij hn hT hdn hbt hsm he
    obtain ⟨n, rfl⟩ : ∃ q, n = q + 1 := ⟨n - 1, by omega⟩
    have eN : T.A 102 0 = f 0 := by rw [hT.2.2.2 102 (by omega), hM.1]
    refine ⟨T, sm, hT, hsm, by rw [show (f 0).toNat = i by omega]; exact he, ?_⟩
    rw [mm_e196_6, c_many (by omega), mm_cI_ok, eN, mm_br_le (by omega) (by omega) (by omega) (by omega), if_pos (by omega), mm_br_lt (by omega) (by omega) (by omega) (by omega)]
    by_cases q : sm < 1000000000
    · rw [if_pos q, if_pos q]
    · rw [if_neg q, if_neg q]
  | succ j ih =>
    intro i n dn sm T o4 o5 ij hn hT hdn hbt hsm he
    obtain ⟨n, rfl⟩ : ∃ q, n = q + 130 := ⟨n - 130, by omega⟩
    obtain ⟨tI, tJ, tL, tA⟩ := hT
    have eN : T.A 102 0 = f 0 := by rw [tA 102 (by omega), hM.1]
    have es : pp_sm (fun r => if bb_R1 (pp_Wr f) r = true then l r else 0) (i + 1) = pp_sm (fun r => if bb_R1 (pp_Wr f) r = true then l r else 0) i + (if bb_R1 (pp_Wr f) i = true then l i else 0) := rfl
    have eR : mm_bt dn i = true ↔ ¬ bb_R1 (pp_Wr f) i = true := by
      rw [hbt i (by omega) (by omega), bb_R1_t]
      constructor
      · rintro ⟨q, q0, q1, q2⟩ z
        exact z q q0 q1 q2
      · intro z
        by_cases y : ∃ q : Int, 0 ≤ q ∧ q < i ∧ pp_cn (pp_Wr f) q i
        · exact y
        · exact absurd (fun q q0 q1 q2 => y ⟨q, q0, q1, q2⟩) z
    rw [mm_e196_6, c_many (by omega), mm_cI_ok, eN, mm_br_le (by omega) (by omega) (by omega) (by omega), if_neg (by omega), c_isOf (by omega) hdn.1 (by omega) (by omega), mm_cI_ok, mm_br_b1]
    by_cases q : mm_bt dn i = true
    · have hq := eR.mp q
      rw [if_neg hq, Int.add_zero] at es
      obtain ⟨T', v, a1, a2, a3, a4⟩ := ih (i + 1) (n + 129) dn sm T o4 o5 (by omega) (by omega) ⟨tI, tJ, tL, tA⟩ hdn (fun u u0 u1 => by
        rw [hbt u u0 u1]
        constructor
        · rintro ⟨x, x0, x1, x2⟩
          exact ⟨x, x0, by omega, x2⟩
        · rintro ⟨x, x0, x1, x2⟩
          by_cases z : x = i
          · obtain ⟨y, y0, y1, y2⟩ := (hbt i (by omega) (by omega)).mp q
            exact ⟨y, y0, y1, pp_cn_tr y2 (by rw [← z]; exact x2)⟩
          · exact ⟨x, x0, by omega, x2⟩) hsm (by rw [es]; exact he)
      refine ⟨T', v, a1, a2, a3, ?_⟩
      rw [if_pos q, mm_i_add]
      rw [Int.natCast_add, Int.natCast_one] at a4
      exact a4
    · have hq : bb_R1 (pp_Wr f) i = true := by
        cases z : bb_R1 (pp_Wr f) i with
        | true => rfl
        | false => exact absurd (eR.mpr (by rw [z]; exact Bool.false_ne_true)) q
      rw [if_pos hq] at es
      rw [if_neg q]
      have sh : mm_sh 102 = some (.inr (.inl 190)) := rfl
      have e102 : T.A 102 = f := by rw [tA 102 (by omega)]; exact hM.1
      obtain ⟨pt, p1, p2, p3⟩ := m_partOf (E := E) (d := d) (B := B) (S := T) (c := c) (r := 102) (x := (i : Int)) sh (by omega) (by rw [e102]; exact hR) (by omega) (by rw [e102]; omega)
      rw [e102] at p2
      have hMT : bb_MC T f wd H := bb_MC_LF hM tI tA
      obtain ⟨V, ⟨vI, vJ, vL, vA, vU, vS⟩, vk, ve⟩ := (m_look (E := E) (B := B) (c := c) (f := f) (wd := wd) (H := H) 12 d (by omega)) (T.sA 107 (mm_u (T.A 107) i (-1))) i (-1) 0 (bb_MC_cg hMT (mm_gA_ne (by omega)) rfl (mm_gA_ne (by omega))) (by omega) (by omega) (by have := (mm_cnt_nn (pp_sb (pp_Wr f) i (-1)) (f 0).toNat).2; omega) (by simp only [mm_gs, mm_u_eq]) (Or.inl rfl) (by omega) (by omega) (fun z => by have := bb_nb_r hin z; omega) (fun u _ z => by rw [mm_bt_0] at z; cases z)
      have vA' : ∀ x, ¬ (107 ≤ x ∧ x ≤ 113) → V.A x = S.A x := fun x hx => by
        rw [vA x hx, mm_gA_ne (by omega)]; exact tA x hx
      have hMV : bb_MC V f wd H := bb_MC_LF hM (vI.trans tI) vA'
      have rt := bb_mroot hMV vk
      have el := pp_mi_one rt (hl i (by omega) (by omega)).2
      have l0 := (hl i (by omega) (by omega)).1
      have lG := (hl i (by omega) (by omega)).2.1
      have pl := bb_pl_r (x := sm) (y := l i) hsm.1 l0
      have ps0 : 0 ≤ pp_sm (fun r => if bb_R1 (pp_Wr f) r = true then l r else 0) i := pp_sm_nn _ (fun r r0 r1 => by
        show 0 ≤ if bb_R1 (pp_Wr f) r = true then l r else 0
        by_cases z : bb_R1 (pp_Wr f) r = true
        · rw [if_pos z]; exact (hl r r0 (by omega)).1
        · rw [if_neg z]; exact Int.le_refl 0)
      obtain ⟨n', o4', o5', b1, b2⟩ := l_least0 (E := E) (d := d) (B := B) (S := V) (c := c) (f := f) (wd := wd) (H := H) (s := (i : Int)) (x1 := mm_ior dn pt) (x2 := sm) (k := 0) (by omega) hMV (by omega) (by omega) vk hsm (H + 1).toNat (n + 128) 0 (by omega) (by omega) (by omega)
      rw [el] at b2
      obtain ⟨T', v, a1, a2, a3, a4⟩ := ih (i + 1) n' (mm_ior dn pt) (bb_pl sm (l i)) V o4' o5' (by omega) (by omega) ⟨vI.trans tI, vJ.trans tJ, vL.trans tL, vA'⟩ ⟨mm_ior_nn _ _, mm_ior_lt hdn.2 p1.2⟩ (fun u u0 u1 => by
        rw [mm_bt_or, Bool.or_eq_true_iff, hbt u u0 u1, p2 u u0, pp_cb_t]
        constructor
        · rintro (⟨x, x0, x1, x2⟩ | z)
          · exact ⟨x, x0, by omega, x2⟩
          · exact ⟨i, by omega, by omega, z⟩
        · rintro ⟨x, x0, x1, x2⟩
          by_cases z : x = i
          · right; rw [← z]; exact x2
          · left; exact ⟨x, x0, by omega, x2⟩) ⟨pl.1, pl.2.1⟩ (by rw [es]; omega)
      refine ⟨T', v, a1, a2, a3, ?_⟩
      rw [Int.natCast_add, Int.natCast_one] at a4
      rw [← a4, ← b2]
      simp (disch := omega) only [mm_ptM]
      rw [p3, mm_cI_ok]
      simp (disch := omega) only [mm_ptM]
      rw [mm_i_or hdn.1 p1.1, mm_e196_43, ve, mm_cV_ok]
      rfl
/-- the price by roots: none, or the least of all plans -/
def bb_BM (f wd : Int → Int) (H v : Int) : Prop := (v = -1 ∧ pp_mi 1000000000 (pp_TO (f 0) 1000000000 (pp_Wr f) (fun _ => H) (fun u => f (3 + 7 * u + 2)) (fun u => f (3 + 7 * u + 0)) (bb_mo f) (bb_mp f wd)) 1000000000) ∨ (0 ≤ v ∧ v < 1000000000 ∧ pp_mi 1000000000 (pp_TO (f 0) 1000000000 (pp_Wr f) (fun _ => H) (fun u => f (3 + 7 * u + 2)) (fun u => f (3 + 7 * u + 0)) (bb_mo f) (bb_mp f wd)) v)
theorem m_byRoots (hd : 18 ≤ d) (hM : bb_MC S f wd H) : ∃ (T : mm_S) (v : Int), bb_PF S T ∧ bb_BM f wd H v ∧ mm_ev E d 196 [.ref (mm_ad B 101)] (mm_hp B S c) = mm_oI v (mm_hp B T c) := by
  have n12 := hM.2.1.1
  obtain ⟨e, rfl⟩ : ∃ q, d = q + 1 := ⟨d - 1, by omega⟩
  obtain ⟨F, hF, h⟩ := mm_w196 E e B S c
  obtain ⟨l, hl⟩ := bb_ml_ex hM
  obtain ⟨T, v, a1, a2, a3, a4⟩ := l_byRoots (E := E) (d := e) (B := B) (S := S) (c := c) (f := f) (wd := wd) (H := H) (l := l) (by omega) hM hl (f 0).toNat 0 (F + 99) 0 0 S none none (by omega) (by omega) ⟨rfl, rfl, rfl, fun _ _ => rfl⟩ (by omega) (fun u u0 u1 => by
    rw [mm_bt_0]
    constructor
    · intro z; cases z
    · rintro ⟨q, q0, q1, _⟩; omega) (by omega) rfl
  have mi := pp_dpR (F := 1000000000) (U := (fun _ => H)) (o := (fun u => f (3 + 7 * u + 2))) (dy := (fun u => f (3 + 7 * u + 0))) (ow := (bb_mo f)) (pr := (bb_mp f wd)) (l := l) (pp_Wr_in f) (bb_R1_RT (n := f 0) (W := pp_Wr f)) (fun r _ r0 r1 => hl r r0 r1)
  rw [← a3] at mi
  refine ⟨T, (if v < 1000000000 then v else -1), a1, ?_, by rw [h, mm_e196_0]; exact a4⟩
  by_cases q : v < 1000000000
  · rw [if_pos q]
    rw [show min 1000000000 v = v by omega] at mi
    exact Or.inr ⟨a2.1, q, mi⟩
  · rw [if_neg q]
    rw [show min 1000000000 v = 1000000000 by omega] at mi
    exact Or.inl ⟨rfl, mi⟩
/-- what the whole search leaves as it was -/
def bb_PG (S T : mm_S) : Prop := (∀ x k, ¬ (x = 101 ∧ k = 15) → T.I x k = S.I x k) ∧ T.J = S.J ∧ T.L = S.L ∧ (∀ x, ¬ (107 ≤ x ∧ x ≤ 114) → T.A x = S.A x)
theorem m_priceOfBest {L : Int → Int} (hd : 19 ≤ d) (eF : S.A 102 = f) (hR : pp_RO f) (hS : bb_RS f wd L) : ∃ (T : mm_S) (H v : Int), bb_PG S T ∧ bb_MC T f wd H ∧ (∀ u : Int, 0 ≤ u → u < f 0 → L u ≤ H) ∧ bb_BM f wd H v ∧ mm_ev E d 195 [.ref (mm_ad B 101)] (mm_hp B S c) = mm_oI v (mm_hp B T c) := by
  obtain ⟨e, rfl⟩ : ∃ q, d = q + 1 := ⟨d - 1, by omega⟩
  obtain ⟨F, hF, h⟩ := mm_w195 E e B S c
  obtain ⟨H, g, a1, a2, a3⟩ := m_layRoots (E := E) (d := e) (B := B) (S := S) (c := c) (f := f) (wd := wd) (L := L) (by omega) eF hR hS
  obtain ⟨T, v, b1, b2, b3⟩ := m_byRoots (E := E) (d := e) (B := B) (S := ((S.sI 101 15 H).sA 114 g)) (c := c) (f := f) (wd := wd) (H := H) (by omega) a1
  refine ⟨T, H, v, ⟨fun x k hx => ?_, ?_, ?_, fun x hx => ?_⟩, bb_MC_LF a1 b1.1 b1.2.2.2, a2, b2, ?_⟩
  · rw [b1.1]
    simp (disch := omega) only [mm_gs, mm_gI_ne]
  · rw [b1.2.1]; rfl
  · rw [b1.2.2.1]; rfl
  · rw [b1.2.2.2 x (by omega)]
    simp (disch := omega) only [mm_gs, mm_gA_ne]
  · rw [h, mm_e195_0, a3, mm_cV_ok, b3, mm_cI_ok]
end
