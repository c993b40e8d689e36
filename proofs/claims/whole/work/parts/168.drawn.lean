/-! DRAWN -/
theorem iv_m15 : ∀ i : Nat, i < 32 → (32767#32).getLsbD i = decide (i < 15) := by decide
theorem iv_sh16 (x : BitVec 32) : (x >>> 16) &&& 32767#32 = (x.sshiftRight 16) &&& 32767#32 := by
  apply BitVec.eq_of_getLsbD_eq
  intro i hi
  rw [BitVec.getLsbD_and, BitVec.getLsbD_and, iv_m15 i hi, BitVec.getLsbD_ushiftRight, BitVec.getLsbD_sshiftRight]
  by_cases e : i < 15
  · rw [decide_eq_true e, Bool.and_true, Bool.and_true, decide_eq_false (show ¬ 32 ≤ i by omega), if_pos (by omega)]
    rfl
  · rw [decide_eq_false e, Bool.and_false, Bool.and_false]
theorem iv_shx (x : Int32) : ((x.toUInt32 >>> ((mm_i 16 : Int32).toUInt32 &&& Int32.toUInt32 31)).toInt32) &&& mm_i 32767 = (x >>> (mm_i 16 &&& 31)) &&& mm_i 32767 := by
  apply Int32.toBitVec_inj.mp
  show (x.toBitVec >>> (16 : Nat)) &&& 32767#32 = (x.toBitVec.sshiftRight 16) &&& 32767#32
  exact iv_sh16 _
def iv_e (x : Int32) : Int := ((x >>> (mm_i 16 &&& 31)) &&& mm_i 32767).toInt
theorem iv_e_r (x : Int32) : 0 ≤ iv_e x ∧ iv_e x ≤ 32767 := by
  have l : ((x >>> (mm_i 16 &&& 31)).toBitVec &&& 32767#32).toNat ≤ 32767 := by
    rw [BitVec.toNat_and]; exact Nat.and_le_right
  have t : iv_e x = ((x >>> (mm_i 16 &&& 31)).toBitVec &&& 32767#32).toInt := rfl
  rw [t, BitVec.toInt_eq_toNat_of_lt (by omega)]
  omega
theorem iv_e_i (x : Int32) : (x >>> (mm_i 16 &&& 31)) &&& mm_i 32767 = mm_i (iv_e x) := (Int32.ofInt_toInt _).symm
def iv_sd (x : Int) : Nat → Int
  | 0 => x
  | i + 1 => iv_sd x i * 1103515245 + 12345
def iv_dg (m x t : Int) : Int := iv_e (mm_i (iv_sd x (t.toNat + 1))) - iv_e (mm_i (iv_sd x (t.toNat + 1))) / m * m
theorem iv_dg_r {m : Int} (hm : 0 < m) (x t : Int) : 0 ≤ iv_dg m x t ∧ iv_dg m x t < m := by
  have a := Int.emod_nonneg (iv_e (mm_i (iv_sd x (t.toNat + 1)))) (show m ≠ 0 by omega)
  have b := Int.emod_lt_of_pos (iv_e (mm_i (iv_sd x (t.toNat + 1)))) hm
  have c := Int.emod_def (iv_e (mm_i (iv_sd x (t.toNat + 1)))) m
  have e := Int.mul_comm m (iv_e (mm_i (iv_sd x (t.toNat + 1))) / m)
  unfold iv_dg
  omega
def iv_df (s : Int) (g : Int → Int) (i : Int) (f : Int → Int) : Int → Int := fun z => if s * 40 + i ≤ z ∧ z < s * 40 + 40 then g (z - s * 40) else f z
theorem iv_df0 (s : Int) (g f : Int → Int) : iv_df s g 40 f = f := by
  funext z
  unfold iv_df
  rw [if_neg (by omega)]
theorem iv_df1 (s : Int) (g f : Int → Int) {i : Int} (h0 : 0 ≤ i) (h1 : i < 40) : iv_df s g (i + 1) (mm_u f (s * 40 + i) (g i)) = iv_df s g i f := by
  funext z
  unfold iv_df
  by_cases e : s * 40 + i + 1 ≤ z ∧ z < s * 40 + 40
  · rw [if_pos (by omega), if_pos (by omega)]
  · rw [if_neg (by omega)]
    by_cases y : z = s * 40 + i
    · rw [y, mm_u_eq, if_pos (by omega), show s * 40 + i - s * 40 = i by omega]
    · rw [mm_u_ne y, if_neg (by omega)]
section
variable {E : mm_E} {d B : Nat} {S : mm_S} {k : Nat}
theorem l_drawC {s m x : Int} (hs : 0 ≤ s ∧ s < 12) (hm : 0 < m ∧ m ≤ 199) (c : mm_N) (cl : mm_F) (x2 : Int32) : ∀ (j i n : Nat) (f : Int → Int) (o7 : Option Value), i + j = 40 → 2 * j < n → mm_r124_28 E cl n (mm_ad B 0) (mm_i s) x2 (mm_i m) (mm_i (iv_sd x i)) (mm_i (pp_sm (iv_dg m x) i)) (mm_i i) o7 (mm_hp B (S.sA 9 f) c) = mm_oI (pp_sm (iv_dg m x) 40) (mm_hp B (S.sA 9 (iv_df s (iv_dg m x) i f)) c) := by
  intro j
  induction j with
  | zero =>
    intro i n f o7 hi hn
    obtain ⟨n, rfl⟩ : ∃ q, n = q + 1 := ⟨n - 1, by omega⟩
    rw [mm_e124_28]
    simp (disch := omega) only [mm_br_le]
    rw [if_pos (by omega), show i = 40 by omega, show ((40 : Nat) : Int) = 40 from rfl, iv_df0]
  | succ j ih =>
    intro i n f o7 hi hn
    obtain ⟨n, rfl⟩ : ∃ q, n = q + 2 := ⟨n - 2, by omega⟩
    have r := iv_e_r (mm_i (iv_sd x (i + 1)))
    have ih := ih (i + 1) n (mm_u f (s * 40 + i) (iv_dg m x i)) (some (.int (mm_i (iv_dg m x i)))) (by omega) (by omega)
    rw [Int.natCast_add, Int.natCast_one, iv_df1 _ _ _ (by omega) (by omega), pp_sm] at ih
    rw [← ih, mm_e124_28]
    simp (disch := omega) only [mm_br_le, mm_nz_i, iv_shx, mm_hm]
    rw [if_neg (by omega), if_neg (by omega)]
    have es : iv_sd x i * 1103515245 + 12345 = iv_sd x (i + 1) := rfl
    rw [es, iv_e_i, mm_i_div r.1 (by omega) hm.1 (by omega), mm_i_mul, mm_i_sub, mm_e124_68]
    have ed : iv_e (mm_i (iv_sd x (i + 1))) - iv_e (mm_i (iv_sd x (i + 1))) / m * m = iv_dg m x i := by unfold iv_dg; rw [show ((i : Int)).toNat = i by omega]
    rw [ed]
    simp (disch := omega) only [mm_ptP, mm_ptN, mm_hm, mm_gs]
theorem l_drawM {s m x v : Int} (hs : 0 ≤ s ∧ s < 12) (hm : 0 < m ∧ m ≤ 199) (hv : S.A 102 (3 + 7 * s + 3) = v) (ev : 2 * v + 1 = m) (c : mm_N) (hd : 1 ≤ d) (x2 : Int32) : ∀ (j i n : Nat) (f : Int → Int) (o5 : Option Value), i + j = 40 → 2 * j < n → mm_r216_29 E (mm_ev E d) n (mm_ad B 101) (mm_i s) x2 (mm_i (pp_sm (iv_dg m x) i)) (mm_i i) o5 (mm_hp B ((S.sI 101 18 (iv_sd x i)).sA 106 f) c) = mm_oI (pp_sm (iv_dg m x) 40) (mm_hp B ((S.sI 101 18 (iv_sd x 40)).sA 106 (iv_df s (iv_dg m x) i f)) c) := by
  intro j
  induction j with
  | zero =>
    intro i n f o7 hi hn
    obtain ⟨n, rfl⟩ : ∃ q, n = q + 1 := ⟨n - 1, by omega⟩
    rw [mm_e216_29]
    simp (disch := omega) only [mm_br_le]
    rw [if_pos (by omega), show i = 40 by omega, show ((40 : Nat) : Int) = 40 from rfl, iv_df0]
  | succ j ih =>
    intro i n f o7 hi hn
    obtain ⟨n, rfl⟩ : ∃ q, n = q + 2 := ⟨n - 2, by omega⟩
    have r := iv_e_r (mm_i (iv_sd x (i + 1)))
    have ih := ih (i + 1) n (mm_u f (s * 40 + i) (iv_dg m x i)) (some (.int (mm_i (iv_dg m x i)))) (by omega) (by omega)
    rw [Int.natCast_add, Int.natCast_one, iv_df1 _ _ _ (by omega) (by omega), pp_sm] at ih
    rw [← ih, mm_e216_29]
    simp (disch := omega) only [mm_br_le]
    have c1 := c_of (E := E) (d := d) (B := B) (c := c) (S := (S.sI 101 18 (iv_sd x i)).sA 106 f) (s := s) (w := 3) hd hs.1 hs.2 (by omega) (by omega)
    have a2 : ((S.sI 101 18 (iv_sd x i)).sA 106 f).A 102 (3 + 7 * s + 3) = v := hv
    rw [a2] at c1
    have ed : iv_e (mm_i (iv_sd x (i + 1))) - iv_e (mm_i (iv_sd x (i + 1))) / m * m = iv_dg m x i := by unfold iv_dg; rw [show ((i : Int)).toNat = i by omega]
    have c2 : mm_ev E d 215 [.ref (mm_ad B 101), .int (mm_i m)] (mm_hp B ((S.sI 101 18 (iv_sd x i)).sA 106 f) c) = mm_oI (iv_dg m x i) (mm_hp B ((S.sI 101 18 (iv_sd x (i + 1))).sA 106 f) c) := by
      refine mm_v215 hd (fun F e hF he => ?_)
      have es : iv_sd x i * 1103515245 + 12345 = iv_sd x (i + 1) := rfl
      have i1 : ((S.sI 101 18 (iv_sd x i)).sA 106 f).I 101 18 = iv_sd x i := mm_gs.1 _ _ _ _
      rw [mm_e215_0]
      simp (disch := omega) only [mm_ptM, mm_nz_i, mm_hm, mm_gs, es]
      rw [iv_e_i, mm_i_div r.1 (by omega) hm.1 (by omega), mm_i_mul, mm_i_sub, ed]
      have q : ((S.sI 101 18 (iv_sd x i)).sA 106 f).sI 101 18 (iv_sd x (i + 1)) = (S.sI 101 18 (iv_sd x (i + 1))).sA 106 f := by
        show ((S.sI 101 18 (iv_sd x i)).sI 101 18 (iv_sd x (i + 1))).sA 106 f = _
        simp only [mm_gs]
      rw [q]
    rw [if_neg (by omega), c1, mm_cI_ok, mm_i_mul, mm_i_add, ev, c2, mm_cI_ok, mm_e216_52]
    simp (disch := omega) only [mm_ptM, mm_hm, mm_gs]
    rw [show 40 * s + (i : Int) = s * 40 + i by omega]
theorem iv_TDg {n s : Int} {t t' e e' g : Int → Int} (h : iv_TD n t t' e e') (s0 : 0 ≤ s) (s1 : s < n) (hg : ∀ i : Int, 0 ≤ g i ∧ g i ≤ 999) : iv_TD n t t' (iv_df s g 0 e) (iv_df s g 0 e') := ⟨h.1, fun x x0 x1 => by
  have q := h.2 x x0 x1
  unfold iv_df
  by_cases y : s * 40 + 0 ≤ x ∧ x < s * 40 + 40
  · rw [if_pos y, if_pos y]
    exact ⟨rfl, (hg _).1, (hg _).2, fun z => by omega⟩
  · rw [if_neg y, if_neg y]
    exact q⟩
theorem i_drawn (h : iv S k) (hd : 4 ≤ d) {s x : Int} (hs : iv_n s) : iv_ok E B d S k 124 [.ref (mm_ad B 0), .int (mm_i s), .int (mm_i x)] 216 [.ref (mm_ad B 101), .int (mm_i s), .int (mm_i x)] iv_c1 := by
  have nn := iv_nn h
  by_cases p : 0 ≤ s ∧ s < S.I 3 10
  · have t := h.2.1.2.2.1.2.2.2.2 s p.1 (by omega)
    unfold pp_tR at t
    have e3 := (iv_RL h).2.2.2.1 s 3 p.1 p.2 (by omega) (by omega)
    have eN := iv_N h
    intro c
    refine ⟨S.sA 9 (iv_df s (iv_dg (2 * S.A (3 + 1) (s * 7 + 3) + 1) x) 0 (S.A 9)), Or.inl ⟨pp_sm (iv_dg (2 * S.A (3 + 1) (s * 7 + 3) + 1) x) 40, ?_, fun o => ?_⟩⟩
    · refine mm_v124 (by omega) (fun F e hF he => ?_)
      have l := l_drawC (E := E) (B := B) (S := S) (s := s) (m := 2 * S.A (3 + 1) (s * 7 + 3) + 1) (x := x) (by omega) (by omega) c (mm_ev E e) (mm_i x) 40 0 (F + 99) (S.A 9) none (by omega) (by omega)
      rw [pp_sA_id] at l
      rw [mm_e124_0, iv_CS h (by omega) hs, if_pos p]
      simp (disch := omega) only [mm_ptP]
      rw [c_told (by omega) (by omega) p.1 (by omega) (by omega) (by omega), mm_cI_ok, mm_i_mul, mm_i_add]
      exact l
    · refine ⟨((((S.sA 9 (iv_df s (iv_dg (2 * S.A (3 + 1) (s * 7 + 3) + 1) x) 0 (S.A 9))).sL 123 o).sI 101 0 0).sI 101 18 (iv_sd x 40)).sA 106 (iv_df s (iv_dg (2 * S.A (3 + 1) (s * 7 + 3) + 1) x) 0 (S.A 106)), mm_v216 (by omega) (fun F e hF he => ?_), rfl, rfl, iv_up (iv_td h (fun x k hx => ?_) (fun x hx x8 x9 x5 x6 => ?_) ?_) (by omega)⟩
      · have l := l_drawM (E := E) (d := e) (B := B) (S := ((S.sA 9 (iv_df s (iv_dg (2 * S.A (3 + 1) (s * 7 + 3) + 1) x) 0 (S.A 9))).sL 123 o).sI 101 0 0) (s := s) (m := 2 * S.A (3 + 1) (s * 7 + 3) + 1) (x := x) (v := S.A (3 + 1) (s * 7 + 3)) (by omega) (by omega) e3 rfl c (by omega) (mm_i x) 40 0 (F + 99) (S.A 106) none (by omega) (by omega)
        have en : (((S.sA 9 (iv_df s (iv_dg (2 * S.A (3 + 1) (s * 7 + 3) + 1) x) 0 (S.A 9))).sL 123 o).sI 101 0 0).A 102 0 = S.I 3 10 := eN
        rw [mm_e216_0]
        simp (disch := omega) only [mm_ptM]
        rw [iv_MSr (by omega) (by omega) hs, if_pos (by omega)]
        simp (disch := omega) only [mm_ptM]
        have z := pp_sA_id ((((S.sA 9 (iv_df s (iv_dg (2 * S.A (3 + 1) (s * 7 + 3) + 1) x) 0 (S.A 9))).sL 123 o).sI 101 0 0).sI 101 18 (iv_sd x 0)) 106
        have z : ((((S.sA 9 (iv_df s (iv_dg (2 * S.A (3 + 1) (s * 7 + 3) + 1) x) 0 (S.A 9))).sL 123 o).sI 101 0 0).sI 101 18 (iv_sd x 0)).sA 106 (S.A 106) = _ := z
        rw [z] at l
        exact l
      · unfold iv_rI at hx
        show (((S.sI 101 0 0).sI 101 18 (iv_sd _ 40))).I x k = _
        rw [mm_gI_ne (by omega), mm_gI_ne (by omega)]
      · simp (disch := omega) only [mm_gs, pp_ne, mm_gA_ne]
      · exact iv_TDg h.2.2.1 p.1 p.2 (fun i => by
          have z := iv_dg_r (m := 2 * S.A (3 + 1) (s * 7 + 3) + 1) (by omega) x i
          omega)
  · refine iv_thr h 0 (by decide) (fun c => mm_v124 (by omega) (fun F e hF he => ?_)) (fun c => ⟨0, mm_v216 (by omega) (fun F e hF he => ?_)⟩)
    · rw [mm_e124_0, iv_CS h (by omega) hs, if_neg p]
    · rw [mm_e216_0]
      simp (disch := omega) only [mm_ptM]
      rw [iv_MS h (by omega) hs, if_neg p, iv_MF (by omega)]; rfl
end
