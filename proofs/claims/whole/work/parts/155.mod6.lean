/-! LOOK FROM a stage -/
/-- what a look from s, away from p, leaves as it was -/
def bb_LF (S T : mm_S) (W : pp_W) (s p : Int) : Prop := T.I = S.I ∧ T.J = S.J ∧ T.L = S.L ∧ (∀ x, ¬ (107 ≤ x ∧ x ≤ 113) → T.A x = S.A x) ∧ (∀ u : Int, 0 ≤ u → u < 12 → ¬ pp_sd W s p u → T.A 107 u = S.A 107 u ∧ ∀ x : Int, 0 ≤ x → x < 120 → T.A 108 (120 * u + x) = S.A 108 (120 * u + x)) ∧ T.A 107 s = S.A 107 s
theorem bb_MC_LF {S T : mm_S} {f wd : Int → Int} {H : Int} (h : bb_MC S f wd H) (hI : T.I = S.I) (hA : ∀ x, ¬ (107 ≤ x ∧ x ≤ 113) → T.A x = S.A x) : bb_MC T f wd H := bb_MC_cg h (hA 102 (by omega)) (by rw [hI]) (hA 114 (by omega))
theorem bb_cnt_sub {W : pp_W} (hF : pp_FO W) {n : Int} {s p k : Int} (s0 : 0 ≤ s) (s1 : s < n) (h : pp_nb W k s) (hk : k ≠ p) : mm_cnt (pp_sb W k s) n.toNat < mm_cnt (pp_sb W s p) n.toNat := by
  refine pp_cnt_lt (s := s) n.toNat (fun i _ _ hi => pp_sb_t.mpr (pp_sd_in hF h hk (pp_sb_t.mp hi))) s0 (by omega) ?_ (pp_sb_t.mpr (pp_sd_rf W s p))
  cases q : pp_sb W k s s with
  | false => rfl
  | true => exact absurd (pp_sb_t.mp q) (pp_sd_no hF h)
section
variable {E : mm_E} {d B : Nat} {c : mm_N} {f wd : Int → Int} {H : Int}
/-- what is claimed of a look -/
def bb_LK (E : mm_E) (B : Nat) (c : mm_N) (f wd : Int → Int) (H : Int) (d k : Nat) : Prop := ∀ (S : mm_S) (s p sn : Int), bb_MC S f wd H → 0 ≤ s → s < f 0 → mm_cnt (pp_sb (pp_Wr f) s p) (f 0).toNat ≤ k → S.A 107 s = p → (p = -1 ∨ pp_nb (pp_Wr f) s p) → 0 ≤ sn → sn < 4096 → (pp_nb (pp_Wr f) s p → mm_bt sn p = true) → (∀ j : Int, 0 ≤ j → mm_bt sn j = true → ¬ pp_sd (pp_Wr f) s p j) →
    ∃ T, bb_LF S T (pp_Wr f) s p ∧ bb_mk T f wd H s p ∧ mm_ev E d 197 [.ref (mm_ad B 101), .int (mm_i s), .int (mm_i sn)] (mm_hp B S c) = mm_oV (mm_hp B T c)
theorem l_kids {S : mm_S} {k : Nat} {s p met sp cu : Int} {x2 : Int32} {o7 : Option Value} (hd : 1 ≤ d) (hM : bb_MC S f wd H) (s0 : 0 ≤ s) (s1 : s < f 0) (hLK : bb_LK E B c f wd H d k) (hk : mm_cnt (pp_sb (pp_Wr f) s p) (f 0).toNat ≤ k + 1) (m0 : 0 ≤ met) (m1 : met < 4096) (hmet : mm_bt met s = true) (hmet2 : ∀ j q : Int, 0 ≤ j → mm_bt met j = true → pp_nb (pp_Wr f) q s → q ≠ p → ¬ pp_sd (pp_Wr f) q s j) (sp0 : 0 ≤ sp) (sp1 : sp < 4096) (cu0 : 0 ≤ cu) (cu1 : cu < 4096) (hsc : ∀ j : Int, 0 ≤ j → j < f 0 → (mm_bt (mm_ior sp cu) j = true ↔ pp_nb (pp_Wr f) j s ∧ j ≠ p)) : ∀ (j n : Nat) (i : Int) (T : mm_S), 0 ≤ i → i + j = f 0 → j < n → bb_LF S T (pp_Wr f) s p → (∀ q : Int, 0 ≤ q → q < i → pp_nb (pp_Wr f) q s → q ≠ p → bb_mk T f wd H q s) →
    ∃ (n' : Nat) (T' : mm_S), n ≤ n' + j ∧ bb_LF S T' (pp_Wr f) s p ∧ (∀ q : Int, pp_nb (pp_Wr f) q s → q ≠ p → bb_mk T' f wd H q s) ∧ mm_r197_31 E (mm_ev E d) n (mm_ad B 101) (mm_i s) x2 (mm_i met) (mm_i sp) (mm_i cu) (mm_i i) o7 (mm_hp B T c) = mm_r197_31 E (mm_ev E d) n' (mm_ad B 101) (mm_i s) x2 (mm_i met) (mm_i sp) (mm_i cu) (mm_i (f 0)) o7 (mm_hp B T' c) := by
  have n12 := hM.2.1.1
  have hH2 := hM.2.2.2.1
  have hFO := hM.2.1.2.2.2.2.2.1
  have hin := pp_Wr_in f
  have nself : ∀ q, pp_nb (pp_Wr f) q s → q ≠ s := fun q h z => by
    rw [z] at h
    rcases h with h | h <;> exact absurd (pp_cn_rf _ _) (hFO _ _ h)
  intro j
  induction j with
  | zero =>
    intro n i T i0 ij hn hT hm
    exact ⟨n, T, by omega, hT, fun q hq hp => hm q (bb_nb_r hin hq).1 (by have := (bb_nb_r hin hq).2.1; omega) hq hp, by rw [show i = f 0 by omega]⟩
  | succ j ih =>
    intro n i T i0 ij hn hT hm
    obtain ⟨n, rfl⟩ : ∃ q, n = q + 1 := ⟨n - 1, by omega⟩
    obtain ⟨tI, tJ, tL, tA, tU, tS⟩ := hT
    have eN : T.A 102 0 = f 0 := by rw [tA 102 (by omega), hM.1]
    have hMT := bb_MC_LF hM tI tA
    rw [mm_e197_31, c_many hd, mm_cI_ok, eN, mm_br_le (by omega) (by omega) (by omega) (by omega), if_neg (by omega), mm_i_or sp0 cu0, c_isOf hd (mm_ior_nn _ _) i0 (by omega), mm_cI_ok, mm_br_b1]
    by_cases q : mm_bt (mm_ior sp cu) i = true
    · obtain ⟨nb, ne⟩ := (hsc i i0 (by omega)).mp q
      rw [if_pos q]
      simp (disch := omega) only [mm_ptM]
      have is := nself i nb
      obtain ⟨V, ⟨vI, vJ, vL, vA, vU, vS⟩, vk, ve⟩ := hLK (T.sA 107 (mm_u (T.A 107) i s)) i s met (bb_MC_cg hMT (mm_gA_ne (by omega)) rfl (mm_gA_ne (by omega))) i0 (by omega) (by have := bb_cnt_sub hFO s0 s1 nb ne; omega) (by simp only [mm_gs, mm_u_eq]) (Or.inr nb) m0 m1 (fun _ => hmet) (fun j j0 hj => hmet2 j i j0 hj nb ne)
      rw [ve, mm_cV_ok, mm_i_add]
      have uA : ∀ x, ¬ (107 ≤ x ∧ x ≤ 113) → V.A x = S.A x := fun x hx => by
        rw [vA x hx, mm_gA_ne (by omega)]; exact tA x hx
      have u8 : ∀ u : Int, 0 ≤ u → u < 12 → ¬ pp_sd (pp_Wr f) i s u → ∀ x : Int, 0 ≤ x → x < 120 → V.A 108 (120 * u + x) = T.A 108 (120 * u + x) := fun u u0 u1 hu x x0 x1 => by
        rw [(vU u u0 u1 hu).2 x x0 x1, mm_gA_ne (by omega)]
      have u7 : ∀ u : Int, 0 ≤ u → u < 12 → ¬ pp_sd (pp_Wr f) i s u → V.A 107 u = T.A 107 u := fun u u0 u1 hu => by
        rw [(vU u u0 u1 hu).1]
        simp only [mm_gs]
        rw [mm_u_ne (fun z => hu (by rw [z]; exact pp_sd_rf _ i s))]
      refine (ih n (i + 1) V (by omega) (by omega) (by omega) ⟨vI.trans tI, vJ.trans tJ, vL.trans tL, uA, fun u u0 u1 hu => ?_, ?_⟩ (fun r r0 r1 hr hp => ?_)).elim (fun n' ⟨T', a1, a2, a3, a4⟩ => ⟨n', T', by omega, a2, a3, a4⟩)
      · have hu2 : ¬ pp_sd (pp_Wr f) i s u := fun z => hu (pp_sd_in hFO nb ne z)
        exact ⟨by rw [u7 u u0 u1 hu2]; exact (tU u u0 u1 hu).1, fun x x0 x1 => by rw [u8 u u0 u1 hu2 x x0 x1]; exact (tU u u0 u1 hu).2 x x0 x1⟩
      · rw [u7 s s0 (by omega) (pp_sd_no hFO nb)]; exact tS
      · by_cases e : r = i
        · rw [e]; exact vk
        · have hu2 : ¬ pp_sd (pp_Wr f) i s r := fun z => e (pp_sd_two hFO hr nb (pp_sd_rf _ r s) z)
          exact bb_mk_cg hH2.2 (hm r r0 (by omega) hr hp) (fun x x0 x1 => u8 r r0 (by omega) hu2 x x0 x1)
    · rw [if_neg q, mm_i_add]
      obtain ⟨n', T', a1, a2, a3, a4⟩ := ih n (i + 1) T (by omega) (by omega) (by omega) ⟨tI, tJ, tL, tA, tU, tS⟩ (fun r r0 r1 hr hp => by
        by_cases e : r = i
        · rw [e] at hr hp
          exact absurd ((hsc i i0 (by omega)).mpr ⟨hr, hp⟩) q
        · exact hm r r0 (by omega) hr hp)
      exact ⟨n', T', by omega, a2, a3, a4⟩
theorem pp_RO_bt (hR : pp_RO f) {i j : Int} (i0 : 0 ≤ i) (j0 : 0 ≤ j) (j1 : j < f 0) : mm_bt (mm_sup f j) i = (pp_Wr f) i j ∧ mm_bt (mm_cus f j) i = (pp_Wr f) j i := by
  have hP := pp_RO_PR hR
  have key : ∀ i j : Int, 0 ≤ i → 0 ≤ j → (mm_bt (mm_sup f j) i = true ↔ mm_bt (mm_cus f i) j = true) := fun i j i0 j0 => by
    rw [mm_sup_bt hP i0, mm_cus_bt hP j0]
  have inr : ∀ i j : Int, 0 ≤ i → 0 ≤ j → mm_bt (mm_sup f j) i = true → i < f 0 ∧ j < f 0 := fun i j i0 j0 h => by
    obtain ⟨l, l0, l1, l2, l3⟩ := (mm_sup_bt hP i0).mp h
    have := hR.2.2.2.1 l l0 l1
    omega
  have eq1 : ∀ i j : Int, 0 ≤ i → 0 ≤ j → mm_bt (mm_sup f j) i = (pp_Wr f) i j := fun i j i0 j0 => by
    by_cases q : i < f 0 ∧ j < f 0
    · exact (pp_Wf_eq ⟨i0, q.1, j0, q.2⟩).symm
    · have e1 : mm_bt (mm_sup f j) i = false := by
        cases z : mm_bt (mm_sup f j) i with
        | false => rfl
        | true => exact absurd (inr i j i0 j0 z) q
      have e2 : (pp_Wr f) i j = false := by
        cases z : (pp_Wr f) i j with
        | false => rfl
        | true =>
          have := pp_Wr_in f i j z
          omega
      rw [e1, e2]
  refine ⟨eq1 i j i0 j0, ?_⟩
  rw [← eq1 j i j0 i0]
  cases z : mm_bt (mm_sup f i) j with
  | true => exact (key j i j0 i0).mp z
  | false =>
    cases y : mm_bt (mm_cus f j) i with
    | false => rfl
    | true =>
      rw [(key j i j0 i0).mpr y] at z
      cases z
theorem m_look : ∀ (k d : Nat), 5 + k ≤ d → bb_LK E B c f wd H d k := by
  intro k
  induction k with
  | zero =>
    intro d hd S s p sn hM s0 s1 hk
    exfalso
    have hFO := hM.2.1.2.2.2.2.2.1
    have h : mm_cnt (fun _ => false) (f 0).toNat < mm_cnt (pp_sb (pp_Wr f) s p) (f 0).toNat := pp_cnt_lt (s := s) _ (fun i _ _ hi => by cases hi) s0 (by omega) rfl (pp_sb_t.mpr (pp_sd_rf _ s p))
    have := (mm_cnt_nn (fun _ => false) (f 0).toNat).1
    omega
  | succ k ih =>
    intro d hd S s p sn hM s0 s1 hk ab hp sn0 sn1 hsn hsn2
    have n12 := hM.2.1.1
    have hR := hM.2.1
    have hH := hM.2.2.1
    have hH2 := hM.2.2.2.1
    have hFO := hR.2.2.2.2.2.1
    have hRK := hR.2.2.2.2.2.2.1
    have hin := pp_Wr_in f
    have hP := pp_RO_PR hR
    have r := bb_ro hR s0 s1
    have rs := mm_sup_r s hP
    have rc := mm_cus_r s hP
    obtain ⟨e, rfl⟩ : ∃ q, d = q + 1 := ⟨d - 1, by omega⟩
    obtain ⟨F, hF, h⟩ := mm_w197 E e B S c (mm_i s) (mm_i sn)
    have pw0 := mm_pw_nn s
    have met0 := mm_ior_nn sn (mm_pw s)
    have met1 := mm_ior_lt sn1 (mm_pw_lt (s := s) (by omega))
    have hPS : mm_PR (S.A 102) := by rw [hM.1]; exact hP
    have nself : ∀ q, pp_nb (pp_Wr f) q s → q ≠ s := fun q h z => by
      rw [z] at h
      rcases h with h | h <;> exact absurd (pp_cn_rf _ _) (hFO _ _ h)
    have metb : ∀ j : Int, 0 ≤ j → mm_bt (mm_ior sn (mm_pw s)) j = (mm_bt sn j || decide (j = s)) := fun j j0 => by rw [mm_bt_or, mm_bt_pw s0 j0]
    -- neighbours that are met: the one inward alone
    have mnb : ∀ q : Int, pp_nb (pp_Wr f) q s → (mm_bt (mm_ior sn (mm_pw s)) q = false ↔ q ≠ p) := by
      intro q hq
      have rq := bb_nb_r hin hq
      rw [metb q rq.1, decide_eq_false (nself q hq), Bool.or_false]
      constructor
      · intro z e
        rw [e] at hq z
        rw [hsn hq.symm] at z
        cases z
      · intro z
        cases y : mm_bt sn q with
        | false => rfl
        | true => exact absurd (pp_sd_in hFO hq z (pp_sd_rf _ q s)) (hsn2 q rq.1 y)
    have hsp : ∀ q : Int, 0 ≤ q → mm_bt (mm_idf (mm_sup f s) (mm_ior sn (mm_pw s))) q = pp_k1 (pp_Wr f) s p q := by
      intro q q0
      rw [mm_bt_df, (pp_RO_bt hR q0 s0 s1).1]
      unfold pp_k1
      cases z : (pp_Wr f) q s with
      | false => rfl
      | true =>
        have m := mnb q (Or.inl z)
        by_cases e : q = p
        · have : mm_bt (mm_ior sn (mm_pw s)) q = true := by
            cases y : mm_bt (mm_ior sn (mm_pw s)) q with
            | true => rfl
            | false => exact absurd e (m.mp y)
          rw [this, decide_eq_true e]
        · rw [m.mpr e, decide_eq_false e]
    have hcu : ∀ q : Int, 0 ≤ q → mm_bt (mm_idf (mm_cus f s) (mm_ior sn (mm_pw s))) q = pp_k2 (pp_Wr f) s p q := by
      intro q q0
      rw [mm_bt_df, (pp_RO_bt hR q0 s0 s1).2]
      unfold pp_k2
      cases z : (pp_Wr f) s q with
      | false => rfl
      | true =>
        have m := mnb q (Or.inr z)
        by_cases e : q = p
        · have : mm_bt (mm_ior sn (mm_pw s)) q = true := by
            cases y : mm_bt (mm_ior sn (mm_pw s)) q with
            | true => rfl
            | false => exact absurd e (m.mp y)
          rw [this, decide_eq_true e]
        · rw [m.mpr e, decide_eq_false e]
    -- the neighbours outward
    obtain ⟨n1, T, m1, hLF, hmk, e1⟩ := l_kids (E := E) (B := B) (c := c) (d := e) (f := f) (wd := wd) (H := H) (S := S) (k := k) (s := s) (p := p) (met := mm_ior sn (mm_pw s)) (sp := mm_idf (mm_sup f s) (mm_ior sn (mm_pw s))) (cu := mm_idf (mm_cus f s) (mm_ior sn (mm_pw s))) (x2 := mm_i sn) (o7 := none) (by omega) hM s0 s1 (ih e (by omega)) hk met0 met1 (by rw [metb s s0, decide_eq_true rfl, Bool.or_true]) (fun j q j0 hj hq hqp z => by
      rw [metb j j0] at hj
      rcases Bool.or_eq_true_iff.mp hj with y | y
      · exact hsn2 j j0 y (pp_sd_in hFO hq hqp z)
      · rw [of_decide_eq_true y] at z
        exact pp_sd_no hFO hq z) (mm_idf_nn _ _) (mm_idf_lt rs.2) (mm_idf_nn _ _) (mm_idf_lt rc.2) (fun j j0 j1 => by
      rw [mm_bt_or, hsp j j0, hcu j j0, Bool.or_eq_true_iff, pp_k1_t, pp_k2_t]
      constructor
      · rintro (z | z)
        · exact ⟨Or.inl z.1, z.2⟩
        · exact ⟨Or.inr z.1, z.2⟩
      · rintro ⟨z | z, y⟩
        · exact Or.inl ⟨z, y⟩
        · exact Or.inr ⟨z, y⟩) (f 0).toNat (F + 98) 0 S (by omega) (by omega) (by omega) ⟨rfl, rfl, rfl, fun _ _ => rfl, fun _ _ _ _ => ⟨rfl, fun _ _ _ => rfl⟩, rfl⟩ (fun q q0 q1 => by omega)
    obtain ⟨tI, tJ, tL, tA, tU, tS⟩ := hLF
    have hMT := bb_MC_LF hM tI tA
    have eN : T.A 102 0 = f 0 := by rw [tA 102 (by omega), hM.1]
    obtain ⟨n1, rfl⟩ : ∃ q, n1 = q + 1 := ⟨n1 - 1, by omega⟩
    have cz := bb_mcz hR hmk
    have k1mk : ∀ q, pp_k1 (pp_Wr f) s p q = true → bb_mk T f wd H q s := fun q hq => hmk q (Or.inl (pp_k1_t.mp hq).1) (pp_k1_t.mp hq).2
    have k2mk : ∀ q, pp_k2 (pp_Wr f) s p q = true → bb_mk T f wd H q s := fun q hq => hmk q (Or.inr (pp_k2_t.mp hq).1) (pp_k2_t.mp hq).2
    -- waits
    obtain ⟨m9, ju, wi, hw, e2⟩ := m_layWaits (E := E) (d := e) (B := B) (S := T) (c := c) (f := f) (wd := wd) (H := H) (s := s) (sp := mm_idf (mm_sup f s) (mm_ior sn (mm_pw s))) (oo := f (3 + 7 * s + 2)) (by omega) hMT s0 s1 rfl (mm_idf_nn _ _) (fun q x q0 q1 hq x0 x1 => (k1mk q ((hsp q q0).symm.trans hq) x x0 x1).1)
    -- what is below
    have hMU : bb_MC (((T.sA 109 m9).sA 110 ju).sA 111 wi) f wd H := bb_MC_cg hMT (by simp (disch := omega) only [mm_gA_ne]) rfl (by simp (disch := omega) only [mm_gA_ne])
    have emc : bb_mc (((T.sA 109 m9).sA 110 ju).sA 111 wi) = bb_mc T := by unfold bb_mc; simp (disch := omega) only [mm_gA_ne]
    obtain ⟨n2, b, o7, m2, hb, e3⟩ := l_belows (E := E) (d := e) (B := B) (S := (((T.sA 109 m9).sA 110 ju).sA 111 wi)) (c := c) (f := f) (wd := wd) (H := H) (s := s) (p := p) (cu := mm_idf (mm_cus f s) (mm_ior sn (mm_pw s))) (x2 := mm_i sn) (x3 := mm_i (mm_ior sn (mm_pw s))) (x4 := mm_i (mm_idf (mm_sup f s) (mm_ior sn (mm_pw s)))) (by omega) hMU s0 s1 (mm_idf_nn _ _) (fun q q0 _ => hcu q q0) (fun q hq => bb_mk_cg hH2.2 (k2mk q hq) (fun x _ _ => by simp (disch := omega) only [mm_gA_ne])) (H + 1).toNat n1 0 (T.A 112) none (by omega) (by omega) (by omega) (fun i i0 i1 => by omega)
    rw [emc] at hb
    have e0 : ((((T.sA 109 m9).sA 110 ju).sA 111 wi).sA 112 (T.A 112)) = (((T.sA 109 m9).sA 110 ju).sA 111 wi) := by
      have z : ∀ (T : mm_S) (b : Nat), T.sA b (T.A b) = T := fun T b => pp_sA_id T b
      rw [show T.A 112 = ((((T.sA 109 m9).sA 110 ju).sA 111 wi)).A 112 by simp (disch := omega) only [mm_gA_ne], z]
    rw [e0] at e3
    obtain ⟨n2, rfl⟩ : ∃ q, n2 = q + 2 := ⟨n2 - 2, by omega⟩
    have go : mm_ev E (e + 1) 197 [.ref (mm_ad B 101), .int (mm_i s), .int (mm_i sn)] (mm_hp B S c) = mm_r197_87 E (mm_ev E e) (n2 + 2) (mm_ad B 101) (mm_i s) (mm_i sn) (mm_i (mm_ior sn (mm_pw s))) (mm_i (mm_idf (mm_sup f s) (mm_ior sn (mm_pw s)))) (mm_i (mm_idf (mm_cus f s) (mm_ior sn (mm_pw s)))) (mm_i (H + 1)) o7 (mm_hp B ((((T.sA 109 m9).sA 110 ju).sA 111 wi).sA 112 b) c) := by
      rw [h, mm_e197_0, c_suppliersOf (by omega) hPS (by omega) (by omega), mm_cI_ok, hM.1, mm_i_shl s0 (by omega), mm_i_or sn0 pw0, mm_i_andn rs.1 met0, mm_e197_17, c_customersOf (by omega) hPS (by omega) (by omega), mm_cI_ok, hM.1, mm_i_andn rc.1 met0]
      refine Eq.trans e1 ?_
      rw [mm_e197_31, c_many (by omega), mm_cI_ok, eN, mm_br_le (by omega) (by omega) (by omega) (by omega), if_pos (by omega), e2, mm_cV_ok]
      exact e3
    have ab' : (((((T.sA 109 m9).sA 110 ju).sA 111 wi).sA 112 b)).A 107 s = p := by
      simp (disch := omega) only [mm_gA_ne]
      rw [tS]; exact ab
    have hPV : mm_PR ((((((T.sA 109 m9).sA 110 ju).sA 111 wi).sA 112 b)).A 102) := by
      simp (disch := omega) only [mm_gA_ne]
      rw [tA 102 (by omega)]; exact hPS
    have e102 : (((((T.sA 109 m9).sA 110 ju).sA 111 wi).sA 112 b)).A 102 = f := by
      simp (disch := omega) only [mm_gA_ne]
      rw [tA 102 (by omega)]; exact hM.1
    have hMV : bb_MC ((((T.sA 109 m9).sA 110 ju).sA 111 wi).sA 112 b) f wd H := bb_MC_cg hMT (by simp (disch := omega) only [mm_gA_ne]) rfl (by simp (disch := omega) only [mm_gA_ne])
    have pr : -1 ≤ p ∧ p < 12 := by
      rcases hp with z | z
      · omega
      · have := bb_nb_r hin z; omega
    have V110 : (((((T.sA 109 m9).sA 110 ju).sA 111 wi).sA 112 b)).A 110 = ju := by simp (disch := omega) only [mm_gs, mm_gA_ne]
    have V111 : (((((T.sA 109 m9).sA 110 ju).sA 111 wi).sA 112 b)).A 111 = wi := by simp (disch := omega) only [mm_gs, mm_gA_ne]
    have V112 : (((((T.sA 109 m9).sA 110 ju).sA 111 wi).sA 112 b)).A 112 = b := by simp (disch := omega) only [mm_gs, mm_gA_ne]
    have V108 : (((((T.sA 109 m9).sA 110 ju).sA 111 wi).sA 112 b)).A 108 = T.A 108 := by simp (disch := omega) only [mm_gs, mm_gA_ne]
    have frame : ∀ (g q13 : Int → Int), (∀ i : Int, ¬ (120 * s ≤ i ∧ i < 120 * s + 120) → g i = T.A 108 i) → bb_LF S (((((((T.sA 108 g).sA 109 m9).sA 110 ju).sA 111 wi).sA 112 b).sA 113 q13)) (pp_Wr f) s p := by
      intro g q13 hg
      refine ⟨tI, tJ, tL, fun x hx => ?_, fun u u0 u1 hu => ⟨?_, fun x x0 x1 => ?_⟩, ?_⟩
      · simp (disch := omega) only [mm_gA_ne]
        exact tA x hx
      · simp (disch := omega) only [mm_gA_ne]
        exact (tU u u0 u1 hu).1
      · simp (disch := omega) only [mm_gs, mm_gA_ne]
        have us : u ≠ s := fun z => hu (by rw [z]; exact pp_sd_rf _ s p)
        rw [hg _ (by omega)]
        exact (tU u u0 u1 hu).2 x x0 x1
      · simp (disch := omega) only [mm_gA_ne]
        exact tS
    by_cases w : (pp_Wr f) p s = true
    · have rp := hin _ _ w
      obtain ⟨g, q13, t1, t2, t3, t4⟩ := m_bySup (E := E) (d := e) (B := B) (c := c) (S := ((((T.sA 109 m9).sA 110 ju).sA 111 wi).sA 112 b)) (f := f) (wd := wd) (H := H) (s := s) (o := f (3 + 7 * s + 2)) (dy := f (3 + 7 * s + 0)) (by omega) hMV s0 s1 rfl rfl (by rw [V110]; exact fun i i0 i1 => ⟨(hw i i0 i1).2.1, (hw i i0 i1).2.2.1⟩) (by rw [V111]; exact fun i i0 i1 => ⟨(hw i i0 i1).1.1, (hw i i0 i1).1.2.1⟩) (by rw [V112]; exact fun i i0 i1 => (hb i i0 i1).1)
      rw [V108] at t3
      simp (disch := omega) only [pp_cm, mm_gs] at t4
      refine ⟨_, frame g q13 t3, fun x x0 x1 => ?_, ?_⟩
      · have z := t2 x x0 x1
        have fin := m_finS (T := ((((T.sA 109 m9).sA 110 ju).sA 111 wi).sA 112 b)) (p := p) (sp := mm_idf (mm_sup f s) (mm_ior sn (mm_pw s))) hMT s0 s1 w cz (fun q q0 _ => hsp q q0) (by rw [V110, V111]; exact hw) (by rw [V112]; exact hb) x0 x1 t1 z
        unfold bb_mc
        simp (disch := omega) only [mm_gs, mm_gA_ne]
        exact ⟨z.1, fun _ => fin, fun y => by rw [w] at y; cases y⟩
      · rw [go, mm_e197_87]
        simp (disch := omega) only [mm_ptM, mm_gs, tI, hH, mm_br_lt]
        rw [if_pos (by omega), ab', mm_br_eq (by omega) (by omega) (by omega) (by omega), if_neg (by omega), c_suppliersOf (by omega) hPV (by omega) (by omega), mm_cI_ok, e102]
        simp (disch := omega) only [mm_ptM]
        rw [ab', c_isOf (by omega) rs.1 (by omega) (by omega), mm_cI_ok, mm_br_b1, (pp_RO_bt hR (by omega) s0 s1).1, if_pos w, mm_e197_217, pp_br10, t4, mm_cV_ok]
    · have w : (pp_Wr f) p s = false := Bool.eq_false_iff.mpr w
      obtain ⟨g, t1, t2, t3⟩ := m_byOwn (E := E) (d := e) (B := B) (c := c) (S := ((((T.sA 109 m9).sA 110 ju).sA 111 wi).sA 112 b)) (f := f) (wd := wd) (H := H) (s := s) (dy := f (3 + 7 * s + 0)) (by omega) hMV s0 s1 rfl (by rw [V110]; exact fun i i0 i1 => ⟨(hw i i0 i1).2.1, (hw i i0 i1).2.2.1⟩) (by rw [V112]; exact fun i i0 i1 => (hb i i0 i1).1)
      rw [V108] at t2
      simp (disch := omega) only [pp_cm, mm_gs] at t3
      have fr := frame g (T.A 113) t2
      have e13 : ((((((T.sA 108 g).sA 109 m9).sA 110 ju).sA 111 wi).sA 112 b).sA 113 (T.A 113)) = (((((T.sA 108 g).sA 109 m9).sA 110 ju).sA 111 wi).sA 112 b) := by
        have z : ∀ (T : mm_S) (b : Nat), T.sA b (T.A b) = T := fun T b => pp_sA_id T b
        rw [show T.A 113 = ((((((T.sA 108 g).sA 109 m9).sA 110 ju).sA 111 wi).sA 112 b)).A 113 by simp (disch := omega) only [mm_gA_ne], z]
      rw [e13] at fr
      refine ⟨_, fr, fun x x0 x1 => ?_, ?_⟩
      · have z := t1 x x0 x1
        have fin := m_finO (T := ((((T.sA 109 m9).sA 110 ju).sA 111 wi).sA 112 b)) (p := p) (sp := mm_idf (mm_sup f s) (mm_ior sn (mm_pw s))) hMT s0 s1 w cz (fun q q0 _ => hsp q q0) (by rw [V110, V111]; exact hw) (by rw [V112]; exact hb) x0 x1 z
        unfold bb_mc
        simp (disch := omega) only [mm_gs, mm_gA_ne]
        exact ⟨z.1, (fun y => by rw [w] at y; cases y), fun _ => fin⟩
      · have fin : mm_r197_217 E (mm_ev E e) (n2 + 1) (mm_ad B 101) (mm_i s) (mm_i sn) (mm_i (mm_ior sn (mm_pw s))) (mm_i (mm_idf (mm_sup f s) (mm_ior sn (mm_pw s)))) (mm_i (mm_idf (mm_cus f s) (mm_ior sn (mm_pw s)))) (mm_i 0) o7 (mm_hp B ((((T.sA 109 m9).sA 110 ju).sA 111 wi).sA 112 b) c) = mm_oV (mm_hp B (((((T.sA 108 g).sA 109 m9).sA 110 ju).sA 111 wi).sA 112 b) c) := by
          rw [mm_e197_217]
          simp only [pp_brT]
          rw [t3, mm_cV_ok]
        rw [go, mm_e197_87]
        simp (disch := omega) only [mm_ptM, mm_gs, tI, hH, mm_br_lt]
        rw [if_pos (by omega), ab', mm_br_eq (by omega) (by omega) (by omega) (by omega)]
        by_cases q1 : p = -1
        · rw [if_pos q1]; exact fin
        · rw [if_neg q1, c_suppliersOf (by omega) hPV (by omega) (by omega), mm_cI_ok, e102]
          simp (disch := omega) only [mm_ptM]
          rw [ab', c_isOf (by omega) rs.1 (by omega) (by omega), mm_cI_ok, mm_br_b1, (pp_RO_bt hR (by omega) s0 s1).1, if_neg (by rw [w]; exact Bool.false_ne_true)]
          exact fin
end
