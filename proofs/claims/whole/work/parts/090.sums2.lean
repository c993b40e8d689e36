/-! FLOW is the sum over all that hangs below -/
noncomputable def pp_bb (W : pp_W) (x y : Int) : Bool := @decide (pp_bw W x y) (Classical.propDecidable _)
theorem pp_bb_t {W : pp_W} {x y : Int} : pp_bb W x y = true ↔ pp_bw W x y := by
  unfold pp_bb
  exact @decide_eq_true_iff _ (Classical.propDecidable _)
theorem pp_FQ_bw {n : Int} {W : pp_W} {g G : Int → Int} {ps : Int → Nat} (hW : pp_IN n W) (hF : pp_FO W) (hB : pp_RB W ps) (hG : pp_FQ n g W G) : ∀ s : Int, 0 ≤ s → s < n → G s = pp_sm (fun t => if pp_bb W s t = true then g t else 0) n.toNat := by
  have main : ∀ (k : Nat) (s : Int), 12 - ps s ≤ k → 0 ≤ s → s < n → G s = pp_sm (fun t => if pp_bb W s t = true then g t else 0) n.toNat := by
    intro k
    induction k with
    | zero =>
      intro s hk
      have := hB.1 s
      omega
    | succ k ih =>
      intro s hk h1 h2
      have e1 : pp_sm (fun j => if W s j = true then G j else 0) n.toNat = pp_sm (fun j => pp_sm (fun t => if (W s j && pp_bb W j t) = true then g t else 0) n.toNat) n.toNat := by
        refine pp_sm_congr _ (fun j j1 j2 => ?_)
        by_cases e : W s j = true
        · rw [if_pos e, ih j (by have := hB.2 s j e; omega) j1 (by omega)]
          refine pp_sm_congr _ (fun t _ _ => ?_)
          rw [e, Bool.true_and]
        · rw [if_neg e]
          refine (pp_sm_zero _ (fun t _ _ => ?_)).symm
          rw [if_neg]
          intro z
          exact e (Bool.and_eq_true_iff.mp z).1
      rw [hG s h1 h2, e1, pp_sm_swap]
      have e2 : g s = pp_sm (fun t => if t = s then g s else 0) n.toNat := by
        rw [pp_sm_one (j := s) n.toNat h1 (by omega) (fun i _ _ hi => if_neg hi), if_pos rfl]
      have e3 : g s + pp_sm (fun t => pp_sm (fun j => if (W s j && pp_bb W j t) = true then g t else 0) n.toNat) n.toNat = pp_sm (fun t => (if t = s then g s else 0) + pp_sm (fun j => if (W s j && pp_bb W j t) = true then g t else 0) n.toNat) n.toNat := by
        rw [pp_sm_add, ← e2]
      rw [e3]
      refine pp_sm_congr _ (fun t t1 t2 => ?_)
      by_cases e : t = s
      · rw [if_pos e, pp_sm_zero _ (fun j _ _ => ?_), if_pos (pp_bb_t.mpr (by rw [e]; exact pp_bw_rf W s)), e, Int.add_zero]
        rw [if_neg]
        intro z
        have z := Bool.and_eq_true_iff.mp z
        have z2 := pp_bb_t.mp z.2
        rw [e] at z2
        have z3 := hB.2 s j z.1
        rcases pp_bw_rk hB.2 z2 with z4 | z4
        · rw [z4] at z3; omega
        · omega
      · rw [if_neg e, Int.zero_add]
        by_cases f : pp_bw W s t
        · rw [if_pos (pp_bb_t.mpr f)]
          rcases pp_bw_in f with z | ⟨l, l1, l2⟩
          · exact absurd z.symm e
          · have g3 := hW s l l1
            rw [pp_sm_one (j := l) n.toNat g3.2.2.1 (by omega) (fun i _ _ hi => ?_), if_pos (by rw [l1, pp_bb_t.mpr l2]; rfl)]
            rw [if_neg]
            intro z
            have z := Bool.and_eq_true_iff.mp z
            exact hi (pp_bw_two hF ⟨ps, hB.2⟩ z.1 l1 (pp_bb_t.mp z.2) l2)
        · rw [if_neg (fun z => f (pp_bb_t.mp z))]
          refine pp_sm_zero _ (fun j _ _ => ?_)
          rw [if_neg]
          intro z
          have z := Bool.and_eq_true_iff.mp z
          exact f (fun P p1 p2 => pp_bb_t.mp z.2 P (p2 s j z.1 p1) p2)
  intro s h1 h2
  exact main 12 s (by omega) h1 h2
theorem pp_FQ_b {n m : Int} {W : pp_W} {g G : Int → Int} {ps : Int → Nat} (hn : n ≤ 12) (hW : pp_IN n W) (hF : pp_FO W) (hB : pp_RB W ps) (hG : pp_FQ n g W G) (hg : ∀ s : Int, 0 ≤ s → s < n → 0 ≤ g s ∧ g s ≤ m) (hm : 0 ≤ m) {s : Int} (h1 : 0 ≤ s) (h2 : s < n) : 0 ≤ G s ∧ G s ≤ 12 * m := by
  rw [pp_FQ_bw hW hF hB hG s h1 h2]
  constructor
  · refine pp_sm_nn _ (fun i i1 i2 => ?_)
    by_cases e : pp_bb W s i = true
    · rw [if_pos e]; exact (hg i i1 (by omega)).1
    · rw [if_neg e]; omega
  · have h := pp_sm_le (g := fun t => if pp_bb W s t = true then g t else 0) (m := m) n.toNat (fun i i1 i2 => by
      show (if pp_bb W s i = true then g i else 0) ≤ m
      by_cases e : pp_bb W s i = true
      · rw [if_pos e]; exact (hg i i1 (by omega)).2
      · rw [if_neg e]; exact hm)
    have h2 : (n.toNat : Int) * m ≤ 12 * m := Int.mul_le_mul_of_nonneg_right (by omega) hm
    omega
/-! THE SAME NETWORK in a Net and in a row of the model -/
def pp_RL (S : mm_S) (a : Nat) (f : Int → Int) : Prop := f 0 = S.I a 10 ∧ f 1 = S.I a 11 ∧ mm_PR f ∧ (∀ s w : Int, 0 ≤ s → s < S.I a 10 → 0 ≤ w → w < 7 → f (3 + 7 * s + w) = S.A (a + 1) (s * 7 + w)) ∧ (∀ i j : Int, 0 ≤ i → i < 12 → 0 ≤ j → j < 12 → mm_bt (mm_sup f j) i = pp_Wf (S.I a 10) (S.A (a + 3)) i j ∧ mm_bt (mm_cus f i) j = pp_Wf (S.I a 10) (S.A (a + 3)) i j) ∧ (∀ s k : Int, 0 ≤ s → s < S.I a 10 → 0 ≤ k → k < 6 → f (87 + 6 * s + k) = S.A (a + 2) (s * 6 + k)) ∧ f 2 = pp_sm (fun s => mm_pc (S.A (a + 3) s)) (S.I a 10).toNat
/-- a Net as it stands between calls -/
def pp_NT (S : mm_S) (a : Nat) : Prop := pp_NK S a ∧ pp_GK S a ∧ pp_ST (S.I a 10) (S.A (a + 1)) (pp_Wf (S.I a 10) (S.A (a + 3))) (S.A (a + 7)) (S.A (a + 8)) (S.A (a + 9)) (S.A (a + 10))
theorem pp_RL_RV {S : mm_S} {a : Nat} {f : Int → Int} (hN : pp_NK S a) (h : pp_RL S a f) : pp_RV f (S.I a 10) (pp_Wf (S.I a 10) (S.A (a + 3))) := ⟨h.1, hN.1.1, hN.1.2, h.2.2.1, pp_Wf_in _ _, h.2.2.2.2.1⟩
theorem pp_NT_RB {S : mm_S} {a : Nat} (h : pp_NT S a) : ∃ ps, pp_RB (pp_Wf (S.I a 10) (S.A (a + 3))) ps := pp_OR_RB h.1.1.2 (pp_Wf_in _ _) h.2.2.1
theorem pp_NT_fl {S : mm_S} {a : Nat} (h : pp_NT S a) {s : Int} (h1 : 0 ≤ s) (h2 : s < S.I a 10) : 0 ≤ S.A (a + 8) s ∧ S.A (a + 8) s ≤ 1188 := by
  obtain ⟨ps, hB⟩ := pp_NT_RB h
  have hn := h.1.1
  have g := pp_FQ_b (m := 99) hn.2 (pp_Wf_in _ _) h.2.1.2.2.1 hB h.2.2.2.1 (fun t t1 t2 => by
    have q := h.1.2.2.2.2 t t1 (by omega)
    exact q.2.2.2.1) (by omega) h1 h2
  omega
theorem pp_NT_wd {S : mm_S} {a : Nat} (h : pp_NT S a) {s : Int} (h1 : 0 ≤ s) (h2 : s < S.I a 10) : 0 ≤ S.A (a + 9) s ∧ S.A (a + 9) s ≤ 119988 := by
  obtain ⟨ps, hB⟩ := pp_NT_RB h
  have hn := h.1.1
  have g := pp_FQ_b (m := 9999) hn.2 (pp_Wf_in _ _) h.2.1.2.2.1 hB h.2.2.2.2.1 (fun t t1 t2 => by
    have q := h.1.2.2.2.2 t t1 (by omega)
    exact q.2.2.2.2.1) (by omega) h1 h2
  omega
section MODEL2
variable {E : mm_E} {d B : Nat} {S : mm_S} {c : mm_N} {a : Nat}
theorem m_flow {s : Int} (hT : pp_NT S a) (hR : pp_RL S a (S.A 102)) (hd : 15 ≤ d) (h1 : 0 ≤ s) (h2 : s < S.I a 10) : mm_ev E d 162 [.ref (mm_ad B 101), .int (mm_i s), .int (mm_i 3)] (mm_hp B S c) = mm_oI (S.A (a + 8) s) (mm_hp B S c) := by
  obtain ⟨ps, hB⟩ := pp_NT_RB hT
  refine c_flowOf (pp_RL_RV hT.1 hR) hB (by omega) (by omega) (fun t t1 t2 => ?_) hd h1 h2
  show _ = S.A 102 (3 + 7 * t + 3) + _
  rw [hR.2.2.2.1 t 3 t1 t2 (by omega) (by omega)]
  exact hT.2.2.2.1 t t1 t2
theorem m_width {s : Int} (hT : pp_NT S a) (hR : pp_RL S a (S.A 102)) (hd : 15 ≤ d) (h1 : 0 ≤ s) (h2 : s < S.I a 10) : mm_ev E d 162 [.ref (mm_ad B 101), .int (mm_i s), .int (mm_i 4)] (mm_hp B S c) = mm_oI (S.A (a + 9) s) (mm_hp B S c) := by
  obtain ⟨ps, hB⟩ := pp_NT_RB hT
  refine c_flowOf (pp_RL_RV hT.1 hR) hB (by omega) (by omega) (fun t t1 t2 => ?_) hd h1 h2
  show _ = S.A 102 (3 + 7 * t + 4) + _
  rw [hR.2.2.2.1 t 4 t1 t2 (by omega) (by omega)]
  exact hT.2.2.2.2.1 t t1 t2
theorem m_longest {s : Int} (hT : pp_NT S a) (hR : pp_RL S a (S.A 102)) (hd : 15 ≤ d) (h1 : 0 ≤ s) (h2 : s < S.I a 10) : mm_ev E d 163 [.ref (mm_ad B 101), .int (mm_i s)] (mm_hp B S c) = mm_oI (S.A (a + 10) s) (mm_hp B S c) := by
  obtain ⟨ps, hB⟩ := pp_NT_RB hT
  have hn := hT.1.1
  refine c_longestOf (pp_RL_RV hT.1 hR) hB (fun t t1 t2 => ?_) (fun t t1 t2 => ?_) (fun t t1 t2 => hT.2.2.2.2.2.2.2 t t1 (by omega)) hd h1 h2
  · rw [hR.2.2.2.1 t 2 t1 t2 (by omega) (by omega)]
    exact (hT.1.2.2.2.2 t t1 (by omega)).2.2.1
  · rw [hR.2.2.2.1 t 2 t1 t2 (by omega) (by omega), hR.2.2.2.1 t 0 t1 t2 (by omega) (by omega)]
    exact hT.2.2.2.2.2.1 t t1 t2
theorem m_root {s n : Int} (hT : pp_NT S a) (hR : pp_RL S a (S.A 102)) (hd : 16 ≤ d) (h1 : 0 ≤ s) (h2 : s < S.I a 10) (hn : 0 ≤ n ∧ n ≤ 999) : mm_ev E d 165 [.ref (mm_ad B 101), .int (mm_i s), .int (mm_i n)] (mm_hp B S c) = mm_oI (pp_rt (pp_qd (S.I a 11) (S.A (a + 9) s) n)) (mm_hp B S c) := by
  refine mm_v165 (by omega) (fun F e hF he => ?_)
  have hz := hT.1.2.1
  have hw := pp_NT_wd hT h1 h2
  have b := pp_qd_b hz.1 hz.2 hw.1 (by omega) hn.1 hn.2
  simp (disch := omega) only [mm_e165_0, mm_ptM, hR.2.1, mm_i2l]
  rw [m_width hT hR (by omega) h1 h2]
  simp (disch := omega) only [mm_hm, mm_i2l]
  rw [show S.I a 11 * S.I a 11 * S.A (a + 9) s * n = pp_qd (S.I a 11) (S.A (a + 9) s) n from rfl, c_rootOf (by omega) b.1 b.2, mm_cI_ok]
theorem m_bound {s n : Int} (hT : pp_NT S a) (hR : pp_RL S a (S.A 102)) (hd : 17 ≤ d) (h1 : 0 ≤ s) (h2 : s < S.I a 10) (hn : 0 ≤ n ∧ n ≤ 999) : mm_ev E d 166 [.ref (mm_ad B 101), .int (mm_i s), .int (mm_i n)] (mm_hp B S c) = mm_oI (n * S.A (a + 8) s + pp_rt (pp_qd (S.I a 11) (S.A (a + 9) s) n)) (mm_hp B S c) := by
  refine mm_v166 (by omega) (fun F e hF he => ?_)
  rw [mm_e166_0, m_flow hT hR (by omega) h1 h2, mm_cI_ok, m_root hT hR (by omega) h1 h2 hn]
  simp only [mm_hm]
/-- WAIT -/
def pp_wt (S : mm_S) (a : Nat) (s : Int) : Int := pp_gx (S.A (a + 1) (s * 7 + 2)) (fun k => pp_Wf (S.I a 10) (S.A (a + 3)) k s) (S.A (a + 5)) (S.I a 10).toNat
def pp_nd (S : mm_S) (a : Nat) (s : Int) : Int := pp_wt S a s + S.A (a + 1) (s * 7 + 0) - S.A (a + 5) s
/-- the times are times -/
def pp_TM (S : mm_S) (a : Nat) : Prop := ∀ s : Int, 0 ≤ s → s < 12 → 0 ≤ S.A (a + 5) s ∧ S.A (a + 5) s ≤ 119
theorem pp_wt_r {s : Int} (hN : pp_NK S a) (hM : pp_TM S a) (h1 : 0 ≤ s) (h2 : s < S.I a 10) : 0 ≤ pp_wt S a s ∧ pp_wt S a s ≤ 119 := by
  have hn := hN.1
  have t := hN.2.2.2.2 s h1 (by omega)
  unfold pp_tR at t
  have q1 := pp_gx_ge (S.A (a + 1) (s * 7 + 2)) (fun k => pp_Wf (S.I a 10) (S.A (a + 3)) k s) (S.A (a + 5)) (S.I a 10).toNat
  have q2 := pp_gx_le (b := S.A (a + 1) (s * 7 + 2)) (p := fun k => pp_Wf (S.I a 10) (S.A (a + 3)) k s) (g := S.A (a + 5)) (m := 119) (S.I a 10).toNat (by omega) (fun i i1 i2 _ => (hM i i1 (by omega)).2)
  unfold pp_wt
  omega
theorem l_waitOf {s : Int} (hd : 1 ≤ d) (ha : a = 3 ∨ a = 14 ∨ a = 25) (hN : pp_NK S a) (hM : pp_TM S a) (h1 : 0 ≤ s) (h2 : s < S.I a 10) : ∀ (j k n : Nat), (S.I a 10).toNat = k + j → j < n → mm_r50_9 E (mm_ev E d) n (mm_ad B a) (mm_i s) (mm_i (pp_gx (S.A (a + 1) (s * 7 + 2)) (fun k => pp_Wf (S.I a 10) (S.A (a + 3)) k s) (S.A (a + 5)) k)) (mm_i k) (mm_hp B S c) = mm_oI (pp_wt S a s) (mm_hp B S c) := by
  obtain ⟨⟨n0, n1⟩, -, hS, -, hT⟩ := hN
  have t0 := hT s h1 (by omega)
  unfold pp_tR at t0
  have b0 := hS s h1 (by omega)
  intro j
  induction j with
  | zero =>
    intro k n hk hn
    obtain ⟨n, rfl⟩ : ∃ m, n = m + 1 := ⟨n - 1, by omega⟩
    rw [mm_e50_9]
    simp (disch := omega) only [mm_ptN, mm_br_le]
    rw [if_pos (by omega), pp_wt, show (S.I a 10).toNat = k from hk]
  | succ j ih =>
    intro k n hk hn
    obtain ⟨n, rfl⟩ : ∃ m, n = m + 1 := ⟨n - 1, by omega⟩
    have ih := ih (k + 1) n (by omega) (by omega)
    rw [Int.natCast_add, Int.natCast_one] at ih
    have l0 := hM k (by omega) (by omega)
    have q1 := pp_gx_ge (S.A (a + 1) (s * 7 + 2)) (fun k => pp_Wf (S.I a 10) (S.A (a + 3)) k s) (S.A (a + 5)) k
    have q2 := pp_gx_le (b := S.A (a + 1) (s * 7 + 2)) (p := fun k => pp_Wf (S.I a 10) (S.A (a + 3)) k s) (g := S.A (a + 5)) (m := 119) k (by omega) (fun i h3 h4 _ => (hM i h3 (by omega)).2)
    rw [mm_e50_9]
    simp (disch := omega) only [mm_ptN, mm_br_le]
    rw [if_neg (by omega)]
    simp (disch := omega) only [c_supplies, mm_hm, mm_br_b1, mm_ptN, mm_i_mx]
    have e : mm_bt (S.A (a + 3) s) k = pp_Wf (S.I a 10) (S.A (a + 3)) k s := (pp_Wf_eq ⟨by omega, by omega, h1, h2⟩).symm
    rw [← ih, pp_gx, e]
    by_cases h : pp_Wf (S.I a 10) (S.A (a + 3)) k s = true
    · rw [if_pos h, if_pos h]
    · rw [if_neg h, if_neg h]
theorem c_waitOf {s : Int} (hd : 2 ≤ d) (ha : a = 3 ∨ a = 14 ∨ a = 25) (hN : pp_NK S a) (hM : pp_TM S a) (h1 : 0 ≤ s) (h2 : s < S.I a 10) : mm_ev E d 50 [.ref (mm_ad B a), .int (mm_i s)] (mm_hp B S c) = mm_oI (pp_wt S a s) (mm_hp B S c) := by
  refine mm_v50 ha (by omega) (fun F e hF he => ?_)
  have g := hN.1
  simp (disch := omega) only [mm_e50_0, c_told, mm_hm]
  exact l_waitOf (by omega) ha hN hM h1 h2 (S.I a 10).toNat 0 (F + 99) (by omega) (by omega)
theorem c_netOf {s : Int} (hd : 3 ≤ d) (ha : a = 3 ∨ a = 14 ∨ a = 25) (hN : pp_NK S a) (hM : pp_TM S a) (h1 : 0 ≤ s) (h2 : s < S.I a 10) : mm_ev E d 51 [.ref (mm_ad B a), .int (mm_i s)] (mm_hp B S c) = mm_oI (pp_nd S a s) (mm_hp B S c) := by
  refine mm_v51 ha (by omega) (fun F e hF he => ?_)
  have g := hN.1
  rw [mm_e51_0, c_waitOf (by omega) ha hN hM h1 h2]
  simp (disch := omega) only [c_told, mm_hm, mm_ptN]
  rfl
theorem l_waitOfM {s : Int} (hd : 2 ≤ d) (hN : pp_NK S a) (hR : pp_RL S a (S.A 102)) (hM : pp_TM S a) (hE : ∀ s : Int, 0 ≤ s → s < S.I a 10 → S.A 105 s = S.A (a + 5) s) (h1 : 0 ≤ s) (h2 : s < S.I a 10) : ∀ (j k n : Nat), (S.I a 10).toNat = k + j → j < n → mm_r179_9 E (mm_ev E d) n (mm_ad B 101) (mm_i s) (mm_i (pp_gx (S.A (a + 1) (s * 7 + 2)) (fun k => pp_Wf (S.I a 10) (S.A (a + 3)) k s) (S.A (a + 5)) k)) (mm_i k) (mm_hp B S c) = mm_oI (pp_wt S a s) (mm_hp B S c) := by
  obtain ⟨r0, r1, r2, hP, hW, hB⟩ := pp_RL_RV hN hR
  have cr := mm_sup_r s hP
  have t0 := hN.2.2.2.2 s h1 (by omega)
  unfold pp_tR at t0
  intro j
  induction j with
  | zero =>
    intro k n hk hn
    obtain ⟨n, rfl⟩ : ∃ m, n = m + 1 := ⟨n - 1, by omega⟩
    rw [mm_e179_9]
    simp (disch := omega) only [c_many, mm_hm, r0, mm_br_le]
    rw [if_pos (by omega), pp_wt, show (S.I a 10).toNat = k from hk]
  | succ j ih =>
    intro k n hk hn
    obtain ⟨n, rfl⟩ : ∃ m, n = m + 1 := ⟨n - 1, by omega⟩
    have ih := ih (k + 1) n (by omega) (by omega)
    rw [Int.natCast_add, Int.natCast_one] at ih
    have l0 := hM k (by omega) (by omega)
    have l1 := hE k (by omega) (by omega)
    have q1 := pp_gx_ge (S.A (a + 1) (s * 7 + 2)) (fun k => pp_Wf (S.I a 10) (S.A (a + 3)) k s) (S.A (a + 5)) k
    have q2 := pp_gx_le (b := S.A (a + 1) (s * 7 + 2)) (p := fun k => pp_Wf (S.I a 10) (S.A (a + 3)) k s) (g := S.A (a + 5)) (m := 119) k (by omega) (fun i h3 h4 _ => (hM i h3 (by omega)).2)
    rw [mm_e179_9]
    simp (disch := omega) only [c_many, mm_hm, r0, mm_br_le]
    rw [if_neg (by omega), c_suppliersOf hd hP (by omega) (by omega)]
    simp (disch := omega) only [c_isOf, mm_hm, mm_br_b1, mm_ptM, mm_i_mx]
    rw [(hB k s (by omega) (by omega) h1 (by omega)).1, ← ih, pp_gx, l1]
    by_cases h : pp_Wf (S.I a 10) (S.A (a + 3)) k s = true
    · rw [if_pos h, if_pos h]
    · rw [if_neg h, if_neg h]
theorem m_waitOf {s : Int} (hd : 3 ≤ d) (hN : pp_NK S a) (hR : pp_RL S a (S.A 102)) (hM : pp_TM S a) (hE : ∀ s : Int, 0 ≤ s → s < S.I a 10 → S.A 105 s = S.A (a + 5) s) (h1 : 0 ≤ s) (h2 : s < S.I a 10) : mm_ev E d 179 [.ref (mm_ad B 101), .int (mm_i s)] (mm_hp B S c) = mm_oI (pp_wt S a s) (mm_hp B S c) := by
  refine mm_v179 (by omega) (fun F e hF he => ?_)
  have g := hN.1
  simp (disch := omega) only [mm_e179_0, c_of, mm_hm]
  rw [hR.2.2.2.1 s 2 h1 h2 (by omega) (by omega)]
  exact l_waitOfM (by omega) hN hR hM hE h1 h2 (S.I a 10).toNat 0 (F + 99) (by omega) (by omega)
theorem m_netOf {s : Int} (hd : 4 ≤ d) (hN : pp_NK S a) (hR : pp_RL S a (S.A 102)) (hM : pp_TM S a) (hE : ∀ s : Int, 0 ≤ s → s < S.I a 10 → S.A 105 s = S.A (a + 5) s) (h1 : 0 ≤ s) (h2 : s < S.I a 10) : mm_ev E d 180 [.ref (mm_ad B 101), .int (mm_i s)] (mm_hp B S c) = mm_oI (pp_nd S a s) (mm_hp B S c) := by
  refine mm_v180 (by omega) (fun F e hF he => ?_)
  have g := hN.1
  rw [mm_e180_0, m_waitOf (by omega) hN hR hM hE h1 h2]
  simp (disch := omega) only [c_of, mm_hm, mm_ptM]
  rw [hR.2.2.2.1 s 0 h1 h2 (by omega) (by omega), hE s h1 h2]
  rfl
end MODEL2
