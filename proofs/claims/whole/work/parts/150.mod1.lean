/-! BEST OF THE MODEL: numbers that may pass what never is -/
def bb_pl (x y : Int) : Int := if 1000000000 ≤ x then 1000000000 else if y < 1000000000 then x + y else 1000000000
theorem bb_pl_r {x y : Int} (x0 : 0 ≤ x) (y0 : 0 ≤ y) : 0 ≤ bb_pl x y ∧ bb_pl x y < 2 * 1000000000 ∧ min 1000000000 (bb_pl x y) = min 1000000000 (x + y) := by
  unfold bb_pl
  by_cases h : 1000000000 ≤ x
  · rw [if_pos h]; omega
  · rw [if_neg h]
    by_cases g : y < 1000000000
    · rw [if_pos g]; omega
    · rw [if_neg g]; omega
/-- a number that stands for the least of a set -/
def bb_cp (X : Int → Prop) (v : Int) : Prop := 0 ≤ v ∧ v < 2 * 1000000000 ∧ pp_mi 1000000000 X (min 1000000000 v)
theorem bb_cp_to {X Y : Int → Prop} {v : Int} (h : bb_cp X v) (g : ∀ x, X x ↔ Y x) : bb_cp Y v := ⟨h.1, h.2.1, pp_mi_to h.2.2 (fun y hy => ⟨y, (g y).mpr hy, Int.le_refl y⟩) (fun _ hy => (g _).mp hy)⟩
def bb_mo (f : Int → Int) (u t : Int) : Int := if bb_hl (fun k => f (3 + k)) u t = true then 0 else 1000000000
noncomputable def bb_mp (f wd : Int → Int) (u z : Int) : Int := f (3 + 7 * u + 1) * pp_rt (pp_qd (f 1) (wd u) z)
theorem bb_mo_r (f : Int → Int) (u t : Int) : 0 ≤ bb_mo f u t ∧ bb_mo f u t ≤ 1000000000 := by
  unfold bb_mo
  by_cases h : bb_hl (fun k => f (3 + k)) u t = true
  · rw [if_pos h]; omega
  · rw [if_neg h]; omega
theorem bb_ro {f : Int → Int} (h : pp_RO f) {u : Int} (h1 : 0 ≤ u) (h2 : u < f 0) : (0 ≤ f (3 + 7 * u + 0) ∧ f (3 + 7 * u + 0) ≤ 9) ∧ (0 ≤ f (3 + 7 * u + 1) ∧ f (3 + 7 * u + 1) ≤ 999) ∧ (0 ≤ f (3 + 7 * u + 2) ∧ f (3 + 7 * u + 2) ≤ 9) ∧ (0 ≤ f (3 + 7 * u + 3) ∧ f (3 + 7 * u + 3) ≤ 99) ∧ (0 ≤ f (3 + 7 * u + 4) ∧ f (3 + 7 * u + 4) ≤ 9999) ∧ (-1 ≤ f (3 + 7 * u + 5) ∧ f (3 + 7 * u + 5) ≤ 21) ∧ (-1 ≤ f (3 + 7 * u + 6) ∧ f (3 + 7 * u + 6) ≤ 119) := by
  have t := h.2.2.2.2.1 u h1 h2
  unfold pp_tR at t
  have e : ∀ w : Int, 3 + (u * 7 + w) = 3 + 7 * u + w := fun w => by omega
  simp only [e] at t
  exact t
/-- what the model's search stands on -/
def bb_MC (S : mm_S) (f wd : Int → Int) (H : Int) : Prop := S.A 102 = f ∧ pp_RO f ∧ S.I 101 15 = H ∧ (0 ≤ H ∧ H ≤ 117) ∧ (∀ u : Int, 0 ≤ u → u < f 0 → f (3 + 7 * u + 2) ≤ H ∧ 0 ≤ wd u ∧ wd u ≤ 119988) ∧ (∀ u z : Int, 0 ≤ u → u < f 0 → 0 ≤ z → z ≤ H + 9 → S.A 114 (240 * u + z) = pp_rt (pp_qd (f 1) (wd u) z))
theorem bb_MC_cg {S T : mm_S} {f wd : Int → Int} {H : Int} (h : bb_MC S f wd H) (h1 : T.A 102 = S.A 102) (h2 : T.I 101 15 = S.I 101 15) (h3 : T.A 114 = S.A 114) : bb_MC T f wd H := by
  unfold bb_MC at h ⊢
  rw [h1, h2, h3]
  exact h
section
variable {E : mm_E} {d B : Nat} {S : mm_S} {c : mm_N} {f wd : Int → Int} {H : Int}
theorem bb_mp_r (h : bb_MC S f wd H) {u z : Int} (h1 : 0 ≤ u) (h2 : u < f 0) (z0 : 0 ≤ z) (z1 : z ≤ 999) : 0 ≤ bb_mp f wd u z ∧ bb_mp f wd u z ≤ 44677278 := by
  have r := bb_ro h.2.1 h1 h2
  have w := h.2.2.2.2.1 u h1 h2
  have zz := h.2.1.2.1
  have b := pp_qd_b (n := z) zz.1 zz.2 w.2.1 (by omega) z0 z1
  have rt := (pp_rt_is b.1 b.2).2
  have rt0 := pp_rt_nn (pp_qd (f 1) (wd u) z)
  have c0 := Int.mul_nonneg r.2.1.1 rt0
  have c1 := Int.mul_le_mul r.2.1.2 rt rt0 (show (0 : Int) ≤ 999 by omega)
  unfold bb_mp
  exact ⟨c0, by omega⟩
theorem bb_mp_nn (h : bb_MC S f wd H) {u : Int} (h1 : 0 ≤ u) (h2 : u < f 0) (z : Int) : 0 ≤ bb_mp f wd u z := Int.mul_nonneg (bb_ro h.2.1 h1 h2).2.1.1 (pp_rt_nn _)
theorem m_plus {x y : Int} (hd : 1 ≤ d) (x0 : 0 ≤ x) (x1 : x < 2147483648) (y0 : 0 ≤ y) (y1 : y < 2147483648) : mm_ev E d 191 [.int (mm_i x), .int (mm_i y)] (mm_hp B S c) = mm_oI (bb_pl x y) (mm_hp B S c) := by
  refine mm_v191 (by omega) (fun F e hF he => ?_)
  unfold bb_pl
  rw [mm_e191_0, mm_br_le (by omega) (by omega) (by omega) (by omega)]
  by_cases h : 1000000000 ≤ x
  · rw [if_pos h, if_pos h]
  · rw [if_neg h, if_neg h, mm_br_lt (by omega) (by omega) (by omega) (by omega)]
    by_cases g : y < 1000000000
    · rw [if_pos g, if_pos g, mm_i_add]
    · rw [if_neg g, if_neg g]
theorem m_price (hd : 2 ≤ d) (h : bb_MC S f wd H) {u z : Int} (h1 : 0 ≤ u) (h2 : u < f 0) (z0 : 0 ≤ z) (z1 : z ≤ H + 9) : mm_ev E d 192 [.ref (mm_ad B 101), .int (mm_i u), .int (mm_i z)] (mm_hp B S c) = mm_oI (bb_mp f wd u z) (mm_hp B S c) := by
  have n12 := h.2.1.1.2
  have hH := h.2.2.2.1
  have e114 := h.2.2.2.2.2 u z h1 h2 z0 z1
  refine mm_v192 (by omega) (fun F e hF he => ?_)
  rw [mm_e192_0, c_of (by omega) h1 (by omega) (by omega) (by omega), mm_cI_ok]
  simp (disch := omega) only [mm_ptM, mm_hm]
  rw [e114, h.1]
  rfl
theorem m_mayBe (hd : 2 ≤ d) (h : bb_MC S f wd H) {u t : Int} (h1 : 0 ≤ u) (h2 : u < f 0) (t0 : 0 ≤ t) (t1 : t ≤ 200) : mm_ev E d 194 [.ref (mm_ad B 101), .int (mm_i u), .int (mm_i t)] (mm_hp B S c) = mm_oI (mm_b1 (bb_hl (fun k => f (3 + k)) u t)) (mm_hp B S c) := by
  have n12 := h.2.1.1.2
  have r := bb_ro h.2.1 h1 h2
  obtain ⟨_, _, _, _, _, r5, r6⟩ := r
  have eA := h.1
  have hl : bb_hl (fun k => f (3 + k)) u t = decide ((f (3 + 7 * u + 6) = -1 ∨ t = f (3 + 7 * u + 6)) ∧ (f (3 + 7 * u + 5) = -1 ∨ t ≤ f (3 + 7 * u + 5))) := by
    unfold bb_hl
    simp only [show 3 + (u * 7 + 6) = 3 + 7 * u + 6 by omega, show 3 + (u * 7 + 5) = 3 + 7 * u + 5 by omega]
  refine mm_v194 (by omega) (fun F e hF he => ?_)
  rw [mm_e194_0, c_of (by omega) h1 (by omega) (by omega) (by omega), mm_cI_ok, eA, hl]
  simp (disch := omega) only [mm_br_eq, mm_br_lt, mm_bz0, mm_bz1, c_of, mm_cI_ok, eA, mm_e194_31]
  by_cases q1 : f (3 + 7 * u + 5) = -1
  · rw [if_pos q1]
    by_cases q2 : f (3 + 7 * u + 6) = -1
    · rw [if_pos q2, decide_eq_true (by omega)]; rfl
    · rw [if_neg q2]
      by_cases q3 : t = f (3 + 7 * u + 6)
      · rw [if_pos q3, decide_eq_true (by omega)]; rfl
      · rw [if_neg q3, decide_eq_false (by omega)]; rfl
  · rw [if_neg q1]
    by_cases q4 : f (3 + 7 * u + 5) < t
    · rw [if_pos q4, decide_eq_false (by omega)]; rfl
    · rw [if_neg q4]
      by_cases q2 : f (3 + 7 * u + 6) = -1
      · rw [if_pos q2, decide_eq_true (by omega)]; rfl
      · rw [if_neg q2]
        by_cases q3 : t = f (3 + 7 * u + 6)
        · rw [if_pos q3, decide_eq_true (by omega)]; rfl
        · rw [if_neg q3, decide_eq_false (by omega)]; rfl
end
/-! waits of the model: just at w, by one who is -/
theorem bb_mr_cap {G : Int} {g : Int → Int} : ∀ k : Nat, pp_mr G g k = pp_mr G (fun i => min G (g i)) k
  | 0 => rfl
  | k + 1 => by
    show min (pp_mr G g k) (g k) = min (pp_mr G (fun i => min G (g i)) k) (min G (g k))
    have := (pp_mr_mi G (fun i => min G (g i)) k).1
    rw [bb_mr_cap k]
    omega
section
variable {oo : Int} {q : Int → Bool} {U : Int → Int} {c : Int → Int → Int}
/-- one more of the suppliers, no later than w -/
theorem bb_xb_s {G : Int} {j : Nat} {w b m v : Int} (hq : q j = true) (hb : pp_mi G (pp_xb oo q U c j w) (min G b)) (hm : pp_mi G (pp_xa U c j w) (min G m)) (G0 : 0 ≤ G) (b0 : 0 ≤ b) (m0 : 0 ≤ m) (hv : min G v = min G (b + m)) : pp_mi G (pp_xb oo q U c (j + 1) w) (min G v) := by
  have g := pp_xb_s hq hb hm (by omega) (by omega)
  rw [hv, show min G (b + m) = min G (min G b + min G m) by omega]
  exact g
def bb_ex (q : Int → Bool) (k : Int) : Int → Bool := fun j => q j && !decide (j = k)
/-- all no later, one of them just then -/
theorem bb_xj_all {G w v : Int} {n : Nat} {one : Int → Int} {wi : Int} (how : oo ≤ w) (w0 : 0 ≤ w) (hU : ∀ k : Int, 0 ≤ k → k < n → q k = true → w ≤ U k) (hw : pp_mi G (pp_xb oo q U c n w) (min G wi)) (h1 : ∀ k : Int, 0 ≤ k → k < n → q k = true → pp_mi G (fun v => ∃ x, pp_xb oo (bb_ex q k) U c n w x ∧ v = x + c k w) (min G (one k)))
    (hv1 : w = oo → min G v ≤ min G wi) (hv2 : ∀ k : Int, 0 ≤ k → k < n → q k = true → min G v ≤ min G (one k)) (hv3 : min G v = G ∨ (w = oo ∧ min G v = min G wi) ∨ ∃ k : Int, 0 ≤ k ∧ k < n ∧ q k = true ∧ min G v = min G (one k)) : pp_mi G (pp_xj oo q U c n w) (min G v) := by
  have sp : ∀ (k : Int) (y : Int → Int), 0 ≤ k → k < n → q k = true → pp_sm (fun j => if q j = true then c j (y j) else 0) n = pp_sm (fun j => if bb_ex q k j = true then c j (y j) else 0) n + c k (y k) := by
    intro k y k0 k1 hk
    refine pp_sm_up (j := k) n k0 k1 (fun i _ _ hi => ?_) ?_
    · show (if q i = true then c i (y i) else 0) = if bb_ex q k i = true then c i (y i) else 0
      unfold bb_ex
      rw [decide_eq_false hi, Bool.not_false, Bool.and_true]
    · show (if q k = true then c k (y k) else 0) = (if bb_ex q k k = true then c k (y k) else 0) + c k (y k)
      unfold bb_ex
      rw [decide_eq_true rfl, Bool.not_true, Bool.and_false, if_pos hk, if_neg Bool.false_ne_true]
      omega
  have exq : ∀ {k j : Int}, bb_ex q k j = true → q j = true := fun h => (Bool.and_eq_true_iff.mp h).1
  have exn : ∀ {k j : Int}, bb_ex q k j = true → j ≠ k := fun h z => by
    have := (Bool.and_eq_true_iff.mp h).2
    rw [decide_eq_true z] at this
    cases this
  refine ⟨by omega, ?_, ?_⟩
  · rintro _ ⟨y, y1, y2, rfl⟩
    have le : ∀ k : Int, 0 ≤ k → k < n → q k = true → y k ≤ w := fun k k0 k1 hk => by
      have := pp_gx_of (b := oo) (g := y) n k k0 k1 hk
      omega
    rcases pp_gx_is (b := oo) (p := q) (g := y) n with e | ⟨k, k0, k1, k2, k3⟩
    · have a := hw.2.1 _ ⟨y, y1, by omega, rfl⟩
      have := hv1 (by omega)
      omega
    · have a := (h1 k k0 k1 k2).2.1 _ ⟨_, ⟨y, fun j j0 j1 hj => y1 j j0 j1 (exq hj), pp_gx_le n how (fun i i0 i1 hi => le i i0 i1 (exq hi)), rfl⟩, rfl⟩
      have := hv2 k k0 k1 k2
      rw [sp k y k0 k1 k2, show y k = w by omega]
      omega
  · rcases hv3 with e | ⟨e1, e2⟩ | ⟨k, k0, k1, k2, e⟩
    · exact Or.inl e
    · rcases hw.2.2 with z | ⟨y, y1, y2, y3⟩
      · exact Or.inl (e2.trans z)
      · exact Or.inr ⟨y, y1, Int.le_antisymm y2 (by rw [e1]; exact pp_gx_ge _ _ _ _), e2.trans y3⟩
    · rcases (h1 k k0 k1 k2).2.2 with z | ⟨x, ⟨y, y1, y2, y3⟩, hx⟩
      · exact Or.inl (e.trans z)
      · refine Or.inr ⟨mm_u y k w, fun j j0 j1 hj => ?_, ?_, ?_⟩
        · by_cases jk : j = k
          · rw [jk, mm_u_eq]; exact ⟨w0, hU k k0 k1 k2⟩
          · rw [mm_u_ne jk]
            exact y1 j j0 j1 (by unfold bb_ex; rw [hj, decide_eq_false jk]; rfl)
        · apply Int.le_antisymm
          · refine pp_gx_le n how (fun i i0 i1 hi => ?_)
            by_cases jk : i = k
            · rw [jk, mm_u_eq]; exact Int.le_refl w
            · rw [mm_u_ne jk]
              have := pp_gx_of (b := oo) (p := bb_ex q k) (g := y) n i i0 i1 (by unfold bb_ex; rw [hi, decide_eq_false jk]; rfl)
              omega
          · have := pp_gx_of (b := oo) (g := mm_u y k w) n k k0 k1 k2
            rw [mm_u_eq] at this
            exact this
        · rw [sp k (mm_u y k w) k0 k1 k2, mm_u_eq, e, hx, y3]
          congr 1
          apply pp_sm_congr
          intro i i0 i1
          show (if bb_ex q k i = true then c i (y i) else 0) = if bb_ex q k i = true then c i (mm_u y k w i) else 0
          by_cases z : bb_ex q k i = true
          · rw [if_pos z, if_pos z, mm_u_ne (exn z)]
          · rw [if_neg z, if_neg z]
end
