/-! A NET AND A ROW CHANGED ALIKE; MOST -/
/-- what is told lies in the bounds of its number -/
def pp_mo (w : Int) : Int := if w = 0 then 9 else if w = 1 then 999 else if w = 2 then 9 else if w = 3 then 99 else if w = 4 then 9999 else if w = 5 then 20 else 119
def pp_ml (w : Int) : Int := if w = 5 ∨ w = 6 then -1 else 0
/-- what the start says of the constants -/
def pp_OE (E : mm_E) (B : Nat) : Prop := E.1.1 < B ∧ E.2.1 < B ∧ (E.2.1 = E.1.1 → E.1.2.1 = 7 ∧ ∀ j, j < 7 → E.1.2.2 j = mm_most.getD j 0) ∧ (∀ i, i < 56 → E.2.2.2 (E.2.2.1 i) = some (mm_tx.getD i []))
theorem pp_most_i : ∀ k : Nat, k < 7 → mm_most.getD k 0 = mm_i (pp_mo k) := by decide +kernel
section EQS
variable {E : mm_E} {d B : Nat} {S T : mm_S} {c : mm_N} {a : Nat} {f g : Int → Int}
theorem pp_lnM (hE : pp_OE E B) (κ : Int32 → mm_R) : mm_ln E (mm_hp B S c) E.2.1 κ = κ (mm_i 7) := by
  unfold mm_ln
  rw [mm_hp_lo S c hE.2.1]
  show (if E.2.1 = E.1.1 then κ (Int32.ofNat E.1.2.1) else if E.2.1 = E.2.1 then κ 7 else none) = _
  by_cases e : E.2.1 = E.1.1
  · rw [if_pos e, (hE.2.2.1 e).1]; rfl
  · rw [if_neg e, if_pos rfl]; rfl
theorem pp_rdM {i : Int} (hE : pp_OE E B) (h1 : 0 ≤ i) (h2 : i < 7) (κ : Int32 → mm_R) : mm_rI E (mm_hp B S c) E.2.1 (mm_i i) κ = κ (mm_i (pp_mo i)) := by
  unfold mm_rI
  rw [mm_hp_lo S c hE.2.1]
  show (if E.2.1 = E.1.1 then (if mm_i i < 0 ∨ E.1.2.1 ≤ (mm_i i).toNatClampNeg then none else κ (E.1.2.2 (mm_i i).toNatClampNeg)) else if E.2.1 = E.2.1 then (if mm_i i < 0 ∨ 7 ≤ (mm_i i).toNatClampNeg then none else κ (mm_most.getD (mm_i i).toNatClampNeg 0)) else none) = _
  have q := pp_most_i i.toNat (by omega)
  rw [show ((i.toNat : Nat) : Int) = i by omega] at q
  have n := mm_ix (v := i) (n := 7) h1 (by omega) (by omega)
  rw [mm_i_nat h1 (by omega)] at n ⊢
  by_cases e : E.2.1 = E.1.1
  · obtain ⟨e1, e2⟩ := hE.2.2.1 e
    rw [if_pos e, e1, if_neg n, e2 _ (by omega), q]
  · rw [if_neg e, if_pos rfl, if_neg n, q]
theorem c_fits {w v : Int} (hE : pp_OE E B) (hd : 1 ≤ d) (h1 : -2147483648 ≤ w) (h2 : w < 2147483648) (h3 : -2147483648 ≤ v) (h4 : v < 2147483648) : mm_ev E d 137 [.int (mm_i w), .int (mm_i v)] (mm_hp B S c) = mm_oI (mm_b1 (decide (0 ≤ w ∧ w < 7 ∧ pp_ml w ≤ v ∧ v ≤ pp_mo w))) (mm_hp B S c) := by
  refine mm_v137 (by omega) (fun F e hF he => ?_)
  have key : ∀ (l : Int), l = pp_ml w → mm_r137_16 E (mm_ev E e) (F + 99) (mm_i w) (mm_i v) none (mm_i l) (mm_hp B S c) = mm_oI (mm_b1 (decide (0 ≤ w ∧ w < 7 ∧ pp_ml w ≤ v ∧ v ≤ pp_mo w))) (mm_hp B S c) := by
    intro l hl
    have lr : -1 ≤ l ∧ l ≤ 0 := by
      rw [hl]; unfold pp_ml
      by_cases e : w = 5 ∨ w = 6
      · rw [if_pos e]; omega
      · rw [if_neg e]; omega
    rw [mm_e137_16, pp_lnM hE]
    simp (disch := omega) only [mm_br_lt, mm_br_le, mm_bz0, mm_bz1]
    by_cases e1 : w < 0
    · rw [if_pos e1, decide_eq_false (by omega)]; rfl
    rw [if_neg e1]
    by_cases e2 : 7 ≤ w
    · rw [if_pos e2, decide_eq_false (by omega)]; rfl
    rw [if_neg e2]
    by_cases e3 : v < l
    · rw [if_pos e3, decide_eq_false (by omega)]; rfl
    rw [if_neg e3, pp_rdM hE (by omega) (by omega)]
    have mr : 0 ≤ pp_mo w ∧ pp_mo w ≤ 9999 := by
      unfold pp_mo
      by_cases z0 : w = 0
      · rw [if_pos z0]; omega
      rw [if_neg z0]
      by_cases z1 : w = 1
      · rw [if_pos z1]; omega
      rw [if_neg z1]
      by_cases z2 : w = 2
      · rw [if_pos z2]; omega
      rw [if_neg z2]
      by_cases z3 : w = 3
      · rw [if_pos z3]; omega
      rw [if_neg z3]
      by_cases z4 : w = 4
      · rw [if_pos z4]; omega
      rw [if_neg z4]
      by_cases z5 : w = 5
      · rw [if_pos z5]; omega
      rw [if_neg z5]; omega
    simp (disch := omega) only [mm_br_lt]
    by_cases e4 : pp_mo w < v
    · rw [if_pos e4, decide_eq_false (by omega)]; rfl
    · rw [if_neg e4, decide_eq_true (by omega)]; rfl
  rw [mm_e137_0]
  simp (disch := omega) only [mm_br_eq]
  by_cases e5 : w = 5
  · rw [if_pos e5]
    exact key (-1) (by unfold pp_ml; rw [if_pos (Or.inl e5)])
  rw [if_neg e5]
  by_cases e6 : w = 6
  · rw [if_pos e6]
    exact key (-1) (by unfold pp_ml; rw [if_pos (Or.inr e6)])
  · rw [if_neg e6]
    exact key 0 (by unfold pp_ml; rw [if_neg (by omega)])
/-- one thing told otherwise keeps what is told in its bounds (a PROMISE of 21 may be asked of) -/
theorem pp_tR_u {T : Int → Int} {s w v : Int} (hT : ∀ s : Int, 0 ≤ s → s < 12 → pp_tR T s) (h1 : 0 ≤ w) (h2 : w < 7) (h3 : pp_ml w ≤ v) (h4 : v ≤ pp_mo w ∨ (w = 5 ∧ v ≤ 21)) : ∀ t : Int, 0 ≤ t → t < 12 → pp_tR (mm_u T (s * 7 + w) v) t := by
  intro t t1 t2
  have h := hT t t1 t2
  by_cases e : t = s
  · subst e
    unfold pp_mo at h4
    unfold pp_ml at h3
    unfold pp_tR at h ⊢
    rcases (by omega : w = 0 ∨ w = 1 ∨ w = 2 ∨ w = 3 ∨ w = 4 ∨ w = 5 ∨ w = 6) with rfl | rfl | rfl | rfl | rfl | rfl | rfl <;> simp (disch := omega) only [pp_ue] <;> simp at h3 h4 <;> omega
  · unfold pp_tR at h ⊢
    simp (disch := omega) only [pp_ue]
    exact h
/-- rows with the same supplies, the same told for n stages, the same names for n stages -/
def pp_sP (f g : Int → Int) : Prop := g 2 = f 2 ∧ ∀ l : Int, 0 ≤ l → l < f 2 → g (159 + 2 * l) = f (159 + 2 * l) ∧ g (159 + 2 * l + 1) = f (159 + 2 * l + 1)
def pp_sT (n : Int) (f g : Int → Int) : Prop := ∀ s w : Int, 0 ≤ s → s < n → 0 ≤ w → w < 7 → g (3 + 7 * s + w) = f (3 + 7 * s + w)
def pp_sN (n : Int) (f g : Int → Int) : Prop := ∀ s k : Int, 0 ≤ s → s < n → 0 ≤ k → k < 6 → g (87 + 6 * s + k) = f (87 + 6 * s + k)
theorem pp_EQ_told {s w v : Int} (h : pp_EQ S a f) (e10 : T.I a 10 = S.I a 10) (e11 : T.I a 11 = S.I a 11) (e1 : T.A (a + 1) = mm_u (S.A (a + 1)) (s * 7 + w) v) (e2 : T.A (a + 2) = S.A (a + 2)) (e3 : T.A (a + 3) = S.A (a + 3)) (e4 : T.A (a + 4) = S.A (a + 4)) (w1 : 0 ≤ w) (w2 : w < 7) (w3 : pp_ml w ≤ v) (w4 : v ≤ pp_mo w) (g0 : g 0 = f 0) (g1 : g 1 = f 1) (gp : pp_sP f g) (gt : ∀ t u : Int, 0 ≤ t → t < f 0 → 0 ≤ u → u < 7 → g (3 + 7 * t + u) = if t = s ∧ u = w then v else f (3 + 7 * t + u)) (gn : pp_sN (f 0) f g) : pp_EQ T a g := by
  obtain ⟨h0, h1, h2, h3, h4, h5, h6⟩ := h
  refine ⟨by rw [e10, g0]; exact h0, by rw [e11, g1]; exact h1, fun t t1 t2 => ?_, fun t u t1 t2 u1 u2 => ?_, ?_, fun t k t1 t2 k1 k2 => ?_, fun t k t1 t2 k1 k2 => ?_⟩
  · rw [e3, e4, mm_sup_cg gp.1 gp.2, mm_cus_cg gp.1 gp.2]; exact h2 t t1 t2
  · rw [g0] at t2
    rw [e1, gt t u t1 t2 u1 u2]
    by_cases e : t = s ∧ u = w
    · rw [if_pos e, e.1, e.2, mm_u_eq]
    · rw [if_neg e, mm_u_ne (by omega)]
      exact h3 t u t1 t2 u1 u2
  · rw [e1]; exact pp_tR_u h4 w1 w2 w3 (Or.inl w4)
  · rw [g0] at t2
    rw [e2, gn t k t1 t2 k1 k2]; exact h5 t k t1 t2 k1 k2
  · rw [g0] at t1
    rw [e2]; exact h6 t k t1 t2 k1 k2
theorem pp_EQ_z {v : Int} (h : pp_EQ S a f) (e10 : T.I a 10 = S.I a 10) (e11 : T.I a 11 = v) (e1 : T.A (a + 1) = S.A (a + 1)) (e2 : T.A (a + 2) = S.A (a + 2)) (e3 : T.A (a + 3) = S.A (a + 3)) (e4 : T.A (a + 4) = S.A (a + 4)) (g0 : g 0 = f 0) (g1 : g 1 = v) (gp : pp_sP f g) (gt : pp_sT (f 0) f g) (gn : pp_sN (f 0) f g) : pp_EQ T a g := by
  obtain ⟨h0, h1, h2, h3, h4, h5, h6⟩ := h
  refine ⟨by rw [e10, g0]; exact h0, by rw [e11, g1], fun t t1 t2 => ?_, fun t u t1 t2 u1 u2 => ?_, by rw [e1]; exact h4, fun t k t1 t2 k1 k2 => ?_, fun t k t1 t2 k1 k2 => ?_⟩
  · rw [e3, e4, mm_sup_cg gp.1 gp.2, mm_cus_cg gp.1 gp.2]; exact h2 t t1 t2
  · rw [g0] at t2
    rw [e1, gt t u t1 t2 u1 u2]; exact h3 t u t1 t2 u1 u2
  · rw [g0] at t2
    rw [e2, gn t k t1 t2 k1 k2]; exact h5 t k t1 t2 k1 k2
  · rw [g0] at t1
    rw [e2]; exact h6 t k t1 t2 k1 k2
/-- a supply more: g has the pair i, j behind those of f -/
def pp_aP (i j : Int) (f g : Int → Int) : Prop := g 2 = f 2 + 1 ∧ (∀ l : Int, 0 ≤ l → l < f 2 → g (159 + 2 * l) = f (159 + 2 * l) ∧ g (159 + 2 * l + 1) = f (159 + 2 * l + 1)) ∧ g (159 + 2 * f 2) = i ∧ g (159 + 2 * f 2 + 1) = j
theorem pp_EQ_join {i j : Int} (hR : pp_RO f) (h : pp_EQ S a f) (e10 : T.I a 10 = S.I a 10) (e11 : T.I a 11 = S.I a 11) (e1 : T.A (a + 1) = S.A (a + 1)) (e2 : T.A (a + 2) = S.A (a + 2)) (i1 : 0 ≤ i) (i2 : i < 12) (j1 : 0 ≤ j) (j2 : j < 12) (e3 : T.A (a + 3) = mm_u (S.A (a + 3)) j (mm_ior (S.A (a + 3) j) (mm_pw i))) (e4 : T.A (a + 4) = mm_u (S.A (a + 4)) i (mm_ior (S.A (a + 4) i) (mm_pw j))) (g0 : g 0 = f 0) (g1 : g 1 = f 1) (gp : pp_aP i j f g) (gt : pp_sT (f 0) f g) (gn : pp_sN (f 0) f g) : pp_EQ T a g := by
  obtain ⟨h0, h1, h2, h3, h4, h5, h6⟩ := h
  have m0 := hR.2.2.1.1
  refine ⟨by rw [e10, g0]; exact h0, by rw [e11, g1]; exact h1, fun t t1 t2 => ⟨?_, ?_⟩, fun t u t1 t2 u1 u2 => ?_, by rw [e1]; exact h4, fun t k t1 t2 k1 k2 => ?_, fun t k t1 t2 k1 k2 => ?_⟩
  · rw [e3, mm_sup_add m0 gp.1 gp.2.1 gp.2.2.1 gp.2.2.2]
    by_cases e : t = j
    · rw [if_pos e, e, mm_u_eq, (h2 j j1 j2).1]
    · rw [if_neg e, mm_u_ne e]; exact (h2 t t1 t2).1
  · rw [e4, mm_cus_add m0 gp.1 gp.2.1 gp.2.2.1 gp.2.2.2]
    by_cases e : t = i
    · rw [if_pos e, e, mm_u_eq, (h2 i i1 i2).2]
    · rw [if_neg e, mm_u_ne e]; exact (h2 t t1 t2).2
  · rw [g0] at t2
    rw [e1, gt t u t1 t2 u1 u2]; exact h3 t u t1 t2 u1 u2
  · rw [g0] at t2
    rw [e2, gn t k t1 t2 k1 k2]; exact h5 t k t1 t2 k1 k2
  · rw [g0] at t1
    rw [e2]; exact h6 t k t1 t2 k1 k2
theorem pp_idf_or {x i : Int} (x0 : 0 ≤ x) (x1 : x < 4096) (i1 : 0 ≤ i) (i2 : i < 12) (h : mm_bt x i = false) : mm_idf (mm_ior x (mm_pw i)) (mm_pw i) = x := by
  refine mm_bset_ext (mm_idf_nn _ _) (mm_idf_lt (mm_ior_lt x1 (mm_pw_lt i2))) x0 x1 (fun s s1 s2 => ?_)
  rw [mm_bt_df, mm_bt_or, mm_bt_pw i1 s1]
  by_cases e : s = i
  · rw [e, h, decide_eq_true rfl]; rfl
  · rw [decide_eq_false e]; simp
/-- a supply less -/
theorem pp_EQ_part {i j : Int} (hR : pp_RO f) (h : pp_EQ S a g) (e10 : T.I a 10 = S.I a 10) (e11 : T.I a 11 = S.I a 11) (e1 : T.A (a + 1) = S.A (a + 1)) (e2 : T.A (a + 2) = S.A (a + 2)) (i1 : 0 ≤ i) (i2 : i < 12) (j1 : 0 ≤ j) (j2 : j < 12) (e3 : T.A (a + 3) = mm_u (S.A (a + 3)) j (mm_idf (S.A (a + 3) j) (mm_pw i))) (e4 : T.A (a + 4) = mm_u (S.A (a + 4)) i (mm_idf (S.A (a + 4) i) (mm_pw j))) (g0 : g 0 = f 0) (g1 : g 1 = f 1) (gp : pp_aP i j f g) (gt : pp_sT (f 0) f g) (gn : pp_sN (f 0) f g) (hb : mm_bt (mm_sup f j) i = false) : pp_EQ T a f := by
  obtain ⟨h0, h1, h2, h3, h4, h5, h6⟩ := h
  have m0 := hR.2.2.1.1
  have P := pp_RO_PR hR
  have hb2 : mm_bt (mm_cus f i) j = false := by
    cases e : mm_bt (mm_cus f i) j with
    | false => rfl
    | true =>
      obtain ⟨l, l1, l2, l3, l4⟩ := (mm_cus_bt P j1).mp e
      rw [(mm_sup_bt P i1).mpr ⟨l, l1, l2, l3, l4⟩] at hb
      cases hb
  have su := mm_sup_add m0 gp.1 gp.2.1 gp.2.2.1 gp.2.2.2
  have cu := mm_cus_add m0 gp.1 gp.2.1 gp.2.2.1 gp.2.2.2
  refine ⟨by rw [e10, ← g0]; exact h0, by rw [e11, ← g1]; exact h1, fun t t1 t2 => ⟨?_, ?_⟩, fun t u t1 t2 u1 u2 => ?_, by rw [e1]; exact h4, fun t k t1 t2 k1 k2 => ?_, fun t k t1 t2 k1 k2 => ?_⟩
  · rw [e3]
    by_cases e : t = j
    · rw [e, mm_u_eq, (h2 j j1 j2).1, su, if_pos rfl, pp_idf_or (mm_sup_r _ P).1 (mm_sup_r _ P).2 i1 i2 hb]
    · rw [mm_u_ne e, (h2 t t1 t2).1, su, if_neg e]
  · rw [e4]
    by_cases e : t = i
    · rw [e, mm_u_eq, (h2 i i1 i2).2, cu, if_pos rfl, pp_idf_or (mm_cus_r _ P).1 (mm_cus_r _ P).2 j1 j2 hb2]
    · rw [mm_u_ne e, (h2 t t1 t2).2, cu, if_neg e]
  · rw [e1, ← gt t u t1 t2 u1 u2]; exact h3 t u t1 (by omega) u1 u2
  · rw [e2, ← gn t k t1 t2 k1 k2]; exact h5 t k t1 (by omega) k1 k2
  · rw [e2]; exact h6 t k (by omega) t2 k1 k2
end EQS
