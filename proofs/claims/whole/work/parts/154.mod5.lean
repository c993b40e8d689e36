/-! FROM A STAGE OUTWARD in the model -/
theorem bb_x_cg {oo : Int} {q q' : Int → Bool} {U : Int → Int} {c : Int → Int → Int} {j : Nat} {w v : Int} (h : ∀ k : Int, 0 ≤ k → k < j → q k = q' k) : (pp_xb oo q U c j w v ↔ pp_xb oo q' U c j w v) ∧ (pp_xj oo q U c j w v ↔ pp_xj oo q' U c j w v) := by
  have a : ∀ {q q' : Int → Bool} (h : ∀ k : Int, 0 ≤ k → k < j → q k = q' k) (y : Int → Int), (∀ k : Int, 0 ≤ k → k < j → q k = true → 0 ≤ y k ∧ y k ≤ U k) → (∀ k : Int, 0 ≤ k → k < j → q' k = true → 0 ≤ y k ∧ y k ≤ U k) ∧ pp_gx oo q' y j = pp_gx oo q y j ∧ pp_sm (fun k => if q' k = true then c k (y k) else 0) j = pp_sm (fun k => if q k = true then c k (y k) else 0) j := by
    intro q q' h y hy
    refine ⟨fun k k0 k1 hk => hy k k0 k1 ((h k k0 k1).trans hk), pp_gx_congr j (fun i i0 i1 => ⟨(h i i0 i1).symm, fun _ => rfl⟩), pp_sm_congr j (fun i i0 i1 => ?_)⟩
    show (if q' i = true then c i (y i) else 0) = if q i = true then c i (y i) else 0
    rw [h i i0 i1]
  have h' : ∀ k : Int, 0 ≤ k → k < j → q' k = q k := fun k k0 k1 => (h k k0 k1).symm
  constructor
  · constructor
    · rintro ⟨y, y1, y2, y3⟩
      obtain ⟨b1, b2, b3⟩ := a h y y1
      exact ⟨y, b1, by rw [b2]; exact y2, by rw [b3]; exact y3⟩
    · rintro ⟨y, y1, y2, y3⟩
      obtain ⟨b1, b2, b3⟩ := a h' y y1
      exact ⟨y, b1, by rw [b2]; exact y2, by rw [b3]; exact y3⟩
  · constructor
    · rintro ⟨y, y1, y2, y3⟩
      obtain ⟨b1, b2, b3⟩ := a h y y1
      exact ⟨y, b1, by rw [b2]; exact y2, by rw [b3]; exact y3⟩
    · rintro ⟨y, y1, y2, y3⟩
      obtain ⟨b1, b2, b3⟩ := a h' y y1
      exact ⟨y, b1, by rw [b2]; exact y2, by rw [b3]; exact y3⟩
/-- the row of s tells what its side costs -/
def bb_mk (S : mm_S) (f wd : Int → Int) (H s p : Int) : Prop := ∀ x : Int, 0 ≤ x → x ≤ H → (0 ≤ S.A 108 (120 * s + x) ∧ S.A 108 (120 * s + x) < 2 * 1000000000) ∧ ((pp_Wr f) p s = true → pp_mi 1000000000 (pp_CS (f 0) 1000000000 (pp_Wr f) (fun _ => H) (fun u => f (3 + 7 * u + 2)) (fun u => f (3 + 7 * u + 0)) (bb_mo f) (bb_mp f wd) s p x) (bb_mc S s x)) ∧ ((pp_Wr f) p s = false → pp_mi 1000000000 (pp_CO (f 0) 1000000000 (pp_Wr f) (fun _ => H) (fun u => f (3 + 7 * u + 2)) (fun u => f (3 + 7 * u + 0)) (bb_mo f) (bb_mp f wd) s p x) (bb_mc S s x))
theorem bb_mk_cg {S T : mm_S} {f wd : Int → Int} {H s p : Int} (hH : H ≤ 117) (h : bb_mk S f wd H s p) (e : ∀ x : Int, 0 ≤ x → x < 120 → T.A 108 (120 * s + x) = S.A 108 (120 * s + x)) : bb_mk T f wd H s p := by
  intro x x0 x1
  have g := h x x0 x1
  unfold bb_mc at g ⊢
  rw [e x x0 (by omega)]
  exact g
section
variable {E : mm_E} {d B : Nat} {S : mm_S} {c : mm_N} {f wd : Int → Int} {H : Int}
theorem bb_mcz {s p : Int} (hR : pp_RO f) (hK : ∀ k, pp_nb (pp_Wr f) k s → k ≠ p → bb_mk S f wd H k s) : pp_cz (f 0) 1000000000 (pp_Wr f) (fun _ => H) (fun u => f (3 + 7 * u + 2)) (fun u => f (3 + 7 * u + 0)) (bb_mo f) (bb_mp f wd) (bb_mc S) s p := by
  have hRK := hR.2.2.2.2.2.2.1
  refine ⟨fun k hk y y0 y1 => ?_, fun k hk y y0 y1 => ?_⟩
  · have g := hK k (Or.inl (pp_k1_t.mp hk).1) (pp_k1_t.mp hk).2 y y0 y1
    exact ⟨by unfold bb_mc; omega, g.2.2 (pp_no2 hRK (pp_k1_t.mp hk).1)⟩
  · have g := hK k (Or.inr (pp_k2_t.mp hk).1) (pp_k2_t.mp hk).2 y y0 y1
    exact ⟨by unfold bb_mc; omega, g.2.1 (pp_k2_t.mp hk).1⟩
theorem bb_mbl_nn {s p t : Int} {cc : Int → Int → Int} (hc : pp_cz (f 0) 1000000000 (pp_Wr f) (fun _ => H) (fun u => f (3 + 7 * u + 2)) (fun u => f (3 + 7 * u + 0)) (bb_mo f) (bb_mp f wd) cc s p) (t0 : 0 ≤ t) (t1 : t ≤ H) : 0 ≤ pp_bl (f 0) (pp_Wr f) (bb_mo f) cc s p t := by
  have o := (bb_mo_r f s t).1
  have g : 0 ≤ pp_sm (fun k => if pp_k2 (pp_Wr f) s p k = true then cc k t else 0) ((f 0)).toNat := pp_sm_nn _ (fun k _ _ => by
    show 0 ≤ if pp_k2 (pp_Wr f) s p k = true then cc k t else 0
    by_cases z : pp_k2 (pp_Wr f) s p k = true
    · rw [if_pos z]; exact (hc.2 k z t t0 t1).1
    · rw [if_neg z]; exact Int.le_refl 0)
  unfold pp_bl
  omega
/-- by the own times -/
theorem m_finO {T : mm_S} {s p sp x v : Int} (hM : bb_MC S f wd H) (s0 : 0 ≤ s) (s1 : s < f 0) (hp : (pp_Wr f) p s = false) (hc : pp_cz (f 0) 1000000000 (pp_Wr f) (fun _ => H) (fun u => f (3 + 7 * u + 2)) (fun u => f (3 + 7 * u + 0)) (bb_mo f) (bb_mp f wd) (bb_mc S) s p) (hsp : ∀ k : Int, 0 ≤ k → k < f 0 → mm_bt sp k = pp_k1 (pp_Wr f) s p k) (hw : ∀ i : Int, 0 ≤ i → i ≤ H → bb_WM S f H sp (f (3 + 7 * s + 2)) i (T.A 111 i) (T.A 110 i)) (hb : ∀ t : Int, 0 ≤ t → t ≤ H → (0 ≤ T.A 112 t ∧ T.A 112 t < 2 * 1000000000) ∧ min 1000000000 (T.A 112 t) = min 1000000000 (pp_bl (f 0) (pp_Wr f) (bb_mo f) (bb_mc S) s p t)) (x0 : 0 ≤ x) (x1 : x ≤ H) (hv : bb_rO T f wd H s (f (3 + 7 * s + 0)) x v) : pp_mi 1000000000 (pp_CO (f 0) 1000000000 (pp_Wr f) (fun _ => H) (fun u => f (3 + 7 * u + 2)) (fun u => f (3 + 7 * u + 0)) (bb_mo f) (bb_mp f wd) s p x) (min 1000000000 v) := by
  have hR := hM.2.1
  have oH := hM.2.2.2.2.1 s s0 s1
  have r := bb_ro hR s0 s1
  have bl0 := bb_mbl_nn hc x0 x1
  obtain ⟨v0, m, m0, mm, me⟩ := hv
  have bx := hb x x0 x1
  refine pp_dpO (pp_Wr_in f) hR.2.2.2.2.2.1 hR.2.2.2.2.2.2.1 s0 s1 hp hc (bb_mo_r f s x).1 (bb_mp_nn hM s0 s1) x0 x1 ?_
  rw [me]
  refine pp_cO (M := H) (ju := fun w => min 1000000000 (T.A 110 w)) (pp_Wr_in f) r.2.2.1.1 oH.1 (fun k _ => Int.le_refl H) (fun w w0 w1 => ?_) (bb_mp_nn hM s0 s1) m0 mm bx.2 bx.1.1 bl0
  have g := (hw w w0 w1).2.2.2
  refine pp_mi_to g (fun y hy => ⟨y, (bb_x_cg (fun k k0 k1 => (hsp k k0 (by omega)))).2.mpr hy, Int.le_refl y⟩) (fun _ hy => (bb_x_cg (fun k k0 k1 => (hsp k k0 (by omega)))).2.mp hy)
/-- by the times of the supplier -/
theorem m_finS {T : mm_S} {q' : Int → Int} {s p sp x v : Int} (hM : bb_MC S f wd H) (s0 : 0 ≤ s) (s1 : s < f 0) (hp : (pp_Wr f) p s = true) (hc : pp_cz (f 0) 1000000000 (pp_Wr f) (fun _ => H) (fun u => f (3 + 7 * u + 2)) (fun u => f (3 + 7 * u + 0)) (bb_mo f) (bb_mp f wd) (bb_mc S) s p) (hsp : ∀ k : Int, 0 ≤ k → k < f 0 → mm_bt sp k = pp_k1 (pp_Wr f) s p k) (hw : ∀ i : Int, 0 ≤ i → i ≤ H → bb_WM S f H sp (f (3 + 7 * s + 2)) i (T.A 111 i) (T.A 110 i)) (hb : ∀ t : Int, 0 ≤ t → t ≤ H → (0 ≤ T.A 112 t ∧ T.A 112 t < 2 * 1000000000) ∧ min 1000000000 (T.A 112 t) = min 1000000000 (pp_bl (f 0) (pp_Wr f) (bb_mo f) (bb_mc S) s p t)) (x0 : 0 ≤ x) (x1 : x ≤ H) (ho : ∀ i : Int, 0 ≤ i → i ≤ H → bb_oS T f wd H s (f (3 + 7 * s + 0)) i (q' i)) (hv : bb_rS (T.sA 113 q') H (f (3 + 7 * s + 2)) x v) : pp_mi 1000000000 (pp_CS (f 0) 1000000000 (pp_Wr f) (fun _ => H) (fun u => f (3 + 7 * u + 2)) (fun u => f (3 + 7 * u + 0)) (bb_mo f) (bb_mp f wd) s p x) (min 1000000000 v) := by
  have hR := hM.2.1
  have oH := hM.2.2.2.2.1 s s0 s1
  have r := bb_ro hR s0 s1
  obtain ⟨v0, u, ul, ve⟩ := hv
  have e110 : (T.sA 113 q').A 110 = T.A 110 := mm_gA_ne (by omega)
  have e111 : (T.sA 113 q').A 111 = T.A 111 := mm_gA_ne (by omega)
  have e113 : (T.sA 113 q').A 113 = q' := by simp only [mm_gs]
  unfold bb_lS at ul
  rw [e110, e113] at ul
  rw [e111, e113] at ve
  have wx := (hw x x0 x1).1
  have qx := (ho x x0 x1).1
  refine pp_dpS (pp_Wr_in f) hR.2.2.2.2.2.1 hR.2.2.2.2.2.2.1 s0 s1 hp hc (fun y _ _ => (bb_mo_r f s y).1) (bb_mp_nn hM s0 s1) ?_
  refine pp_cS (M := H) (b1 := if f (3 + 7 * s + 2) ≤ x then min 1000000000 (T.A 111 x + q' x) else 1000000000) (m := min 1000000000 u) (by_ := fun w => min 1000000000 (T.A 111 w)) (ju := fun w => min 1000000000 (T.A 110 w)) (qu := fun w => min 1000000000 (q' w)) (pp_Wr_in f) r.2.2.1.1 oH.1 (fun k _ => Int.le_refl H) (fun w w0 w1 => ?_) (fun w w0 w1 => ?_) (fun w w0 w1 => ?_) x0 x1 ?_ ?_ ?_
  · have g := (hw w w0 w1).1
    exact ⟨by have := g.1; omega, pp_mi_to g.2.2 (fun y hy => ⟨y, (bb_x_cg (fun k k0 k1 => (hsp k k0 (by omega)))).1.mpr hy, Int.le_refl y⟩) (fun _ hy => (bb_x_cg (fun k k0 k1 => (hsp k k0 (by omega)))).1.mp hy)⟩
  · have g := (hw w w0 w1).2
    exact ⟨by have := g.1; omega, pp_mi_to g.2.2 (fun y hy => ⟨y, (bb_x_cg (fun k k0 k1 => (hsp k k0 (by omega)))).2.mpr hy, Int.le_refl y⟩) (fun _ hy => (bb_x_cg (fun k k0 k1 => (hsp k k0 (by omega)))).2.mp hy)⟩
  · obtain ⟨g1, g2⟩ := ho w w0 w1
    refine ⟨by omega, pp_mi_to g2 ?_ ?_⟩
    · rintro _ ⟨t, ht, rfl⟩
      have bt := hb t ht.1 ht.2.1
      refine ⟨_, ⟨t, ht, rfl⟩, ?_⟩
      show min 1000000000 (T.A 112 t) + bb_mp f wd s (w + f (3 + 7 * s + 0) - t) ≤ pp_bl (f 0) (pp_Wr f) (bb_mo f) (bb_mc S) s p t + bb_mp f wd s (w + f (3 + 7 * s + 0) - t)
      omega
    · rintro hlt ⟨t, ht, e⟩
      have bt := hb t ht.1 ht.2.1
      have p0 := bb_mp_nn hM s0 s1 (w + f (3 + 7 * s + 0) - t)
      refine ⟨t, ht, ?_⟩
      show min 1000000000 (q' w) = pp_bl (f 0) (pp_Wr f) (bb_mo f) (bb_mc S) s p t + bb_mp f wd s (w + f (3 + 7 * s + 0) - t)
      omega
  · refine pp_mi_to ul.2 ?_ ?_
    · rintro y ⟨w, hw, e⟩
      have z : max x (f (3 + 7 * s + 2) - 1) < w := hw.2.2
      exact ⟨y, ⟨w, ⟨by omega, by omega⟩, e⟩, Int.le_refl y⟩
    · rintro _ ⟨w, hw, e⟩
      refine ⟨w, ⟨by omega, by omega, ?_⟩, e⟩
      show max x (f (3 + 7 * s + 2) - 1) < w
      omega
  · by_cases q : f (3 + 7 * s + 2) ≤ x
    · rw [if_pos q]
      have w1 := wx.1
      refine ⟨by omega, ?_, ?_⟩
      · rintro _ ⟨_, rfl⟩
        show _ ≤ min 1000000000 (T.A 111 x) + min 1000000000 (q' x)
        omega
      · by_cases z : T.A 111 x + q' x < 1000000000
        · refine Or.inr ⟨q, ?_⟩
          show _ = min 1000000000 (T.A 111 x) + min 1000000000 (q' x)
          omega
        · exact Or.inl (by omega)
    · rw [if_neg q]
      refine pp_mi_no ?_
      rintro _ ⟨z, _⟩
      exact absurd z q
  · rw [ve]
    by_cases q : f (3 + 7 * s + 2) ≤ x
    · rw [if_pos q, if_pos q]
    · rw [if_neg q, if_neg q]; omega
/-- what s and its customers cost at a time -/
theorem l_below {s p cu t : Int} {x2 x3 x4 : Int32} (hd : 1 ≤ d) (hM : bb_MC S f wd H) (cu0 : 0 ≤ cu) (hcu : ∀ k : Int, 0 ≤ k → k < f 0 → mm_bt cu k = pp_k2 (pp_Wr f) s p k) (hK : ∀ k, pp_k2 (pp_Wr f) s p k = true → bb_mk S f wd H k s) (t0 : 0 ≤ t) (t1 : t ≤ H) : ∀ (j i n : Nat) (b : Int → Int) (v : Int), (f 0).toNat = i + j → j < n → (0 ≤ v ∧ v < 2 * 1000000000) → min 1000000000 v = min 1000000000 (bb_mo f s t + pp_sm (fun k => if pp_k2 (pp_Wr f) s p k = true then bb_mc S k t else 0) i) →
    ∃ (n' : Nat) (v' : Int) (o7 : Option Value), n ≤ n' + j + 1 ∧ (0 ≤ v' ∧ v' < 2 * 1000000000) ∧ min 1000000000 v' = min 1000000000 (pp_bl (f 0) (pp_Wr f) (bb_mo f) (bb_mc S) s p t) ∧ mm_r197_122 E (mm_ev E d) n (mm_ad B 101) (mm_i s) x2 x3 x4 (mm_i cu) (mm_i t) (mm_i (i : Int)) (mm_hp B (S.sA 112 (mm_u b t v)) c) = mm_r197_87 E (mm_ev E d) n' (mm_ad B 101) (mm_i s) x2 x3 x4 (mm_i cu) (mm_i (t + 1)) o7 (mm_hp B (S.sA 112 (mm_u b t v')) c) := by
  have n12 := hM.2.1.1
  have hH2 := hM.2.2.2.1
  have eN : S.A 102 0 = f 0 := by rw [hM.1]
  have mo := bb_mo_r f s t
  have ps : ∀ i : Nat, (i : Int) ≤ f 0 → 0 ≤ pp_sm (fun k => if pp_k2 (pp_Wr f) s p k = true then bb_mc S k t else 0) i := fun i _ => pp_sm_nn _ (fun k _ _ => by
    show 0 ≤ if pp_k2 (pp_Wr f) s p k = true then bb_mc S k t else 0
    by_cases z : pp_k2 (pp_Wr f) s p k = true
    · rw [if_pos z]; have := (hK k z t t0 t1).1; unfold bb_mc; omega
    · rw [if_neg z]; exact Int.le_refl 0)
  intro j
  induction j with
  | zero =>
    intro i n b v ij hn hv e
    obtain ⟨n, rfl⟩ : ∃ q, n = q + 1 := ⟨n - 1, by omega⟩
    refine ⟨n, v, some (.int (mm_i (i : Int))), by omega, hv, ?_, ?_⟩
    · unfold pp_bl
      rw [show (f 0).toNat = i by omega]
      exact e
    · rw [mm_e197_122, c_many hd, mm_cI_ok]
      simp (disch := omega) only [mm_gs, mm_gA_ne, eN, mm_br_le, mm_hm]
      rw [if_pos (by omega)]
  | succ j ih =>
    intro i n b v ij hn hv e
    obtain ⟨n, rfl⟩ : ∃ q, n = q + 1 := ⟨n - 1, by omega⟩
    have es : pp_sm (fun k => if pp_k2 (pp_Wr f) s p k = true then bb_mc S k t else 0) (i + 1) = pp_sm (fun k => if pp_k2 (pp_Wr f) s p k = true then bb_mc S k t else 0) i + (if pp_k2 (pp_Wr f) s p i = true then bb_mc S i t else 0) := rfl
    have p0 := ps i (by omega)
    rw [mm_e197_122, c_many hd, mm_cI_ok]
    simp (disch := omega) only [mm_gs, mm_gA_ne, eN, mm_br_le]
    rw [if_neg (by omega), c_isOf hd cu0 (by omega) (by omega), mm_cI_ok, mm_br_b1, hcu i (by omega) (by omega)]
    by_cases q : pp_k2 (pp_Wr f) s p i = true
    · have r := (hK i q t t0 t1).1
      have pl := bb_pl_r (x := v) (y := S.A 108 (120 * i + t)) hv.1 r.1
      have ec : bb_mc S i t = min 1000000000 (S.A 108 (120 * i + t)) := rfl
      rw [if_pos q] at es
      rw [if_pos q]
      simp (disch := omega) only [mm_ptM, mm_gs, mm_gA_ne, mm_u_eq, mm_hm]
      rw [m_plus hd (by omega) (by omega) (by omega) (by omega), mm_cI_ok]
      simp (disch := omega) only [mm_ptM, mm_gs, mm_gA_ne, mm_u_u]
      obtain ⟨n', v', o7, r1, r2, r3, r4⟩ := ih (i + 1) n b (bb_pl v (S.A 108 (120 * i + t))) (by omega) (by omega) ⟨pl.1, pl.2.1⟩ (by rw [es]; omega)
      rw [Int.natCast_add, Int.natCast_one] at r4
      exact ⟨n', v', o7, by omega, r2, r3, r4⟩
    · rw [if_neg q] at es
      rw [if_neg q, mm_i_add]
      obtain ⟨n', v', o7, r1, r2, r3, r4⟩ := ih (i + 1) n b v (by omega) (by omega) hv (by rw [es, Int.add_zero]; exact e)
      rw [Int.natCast_add, Int.natCast_one] at r4
      exact ⟨n', v', o7, by omega, r2, r3, r4⟩
theorem l_belows {s p cu : Int} {x2 x3 x4 : Int32} (hd : 2 ≤ d) (hM : bb_MC S f wd H) (s0 : 0 ≤ s) (s1 : s < f 0) (cu0 : 0 ≤ cu) (hcu : ∀ k : Int, 0 ≤ k → k < f 0 → mm_bt cu k = pp_k2 (pp_Wr f) s p k) (hK : ∀ k, pp_k2 (pp_Wr f) s p k = true → bb_mk S f wd H k s) : ∀ (j n : Nat) (t : Int) (b : Int → Int) (o7 : Option Value), 0 ≤ t → t + j = H + 1 → 20 * j < n → (∀ i : Int, 0 ≤ i → i < t → (0 ≤ b i ∧ b i < 2 * 1000000000) ∧ min 1000000000 (b i) = min 1000000000 (pp_bl (f 0) (pp_Wr f) (bb_mo f) (bb_mc S) s p i)) →
    ∃ (n' : Nat) (b' : Int → Int) (o7' : Option Value), n ≤ n' + 20 * j ∧ (∀ i : Int, 0 ≤ i → i ≤ H → (0 ≤ b' i ∧ b' i < 2 * 1000000000) ∧ min 1000000000 (b' i) = min 1000000000 (pp_bl (f 0) (pp_Wr f) (bb_mo f) (bb_mc S) s p i)) ∧ mm_r197_87 E (mm_ev E d) n (mm_ad B 101) (mm_i s) x2 x3 x4 (mm_i cu) (mm_i t) o7 (mm_hp B (S.sA 112 b) c) = mm_r197_87 E (mm_ev E d) n' (mm_ad B 101) (mm_i s) x2 x3 x4 (mm_i cu) (mm_i (H + 1)) o7' (mm_hp B (S.sA 112 b') c) := by
  have n12 := hM.2.1.1
  have hH := hM.2.2.1
  have hH2 := hM.2.2.2.1
  intro j
  induction j with
  | zero =>
    intro n t b o7 t0 tj hn h
    exact ⟨n, b, o7, by omega, fun i i0 i1 => h i i0 (by omega), by rw [show H + 1 = t by omega]⟩
  | succ j ih =>
    intro n t b o7 t0 tj hn h
    obtain ⟨n, rfl⟩ : ∃ q, n = q + 20 := ⟨n - 20, by omega⟩
    have hM' : bb_MC (S.sA 112 b) f wd H := bb_MC_cg hM (mm_gA_ne (by omega)) rfl (mm_gA_ne (by omega))
    have mo := bb_mo_r f s t
    obtain ⟨n', v', p7, r1, r2, r3, r4⟩ := l_below (E := E) (d := d) (B := B) (S := S) (c := c) (f := f) (wd := wd) (H := H) (s := s) (p := p) (cu := cu) (t := t) (x2 := x2) (x3 := x3) (x4 := x4) (by omega) hM cu0 hcu hK t0 (by omega) (f 0).toNat 0 (n + 19) b (bb_mo f s t) (by omega) (by omega) (by omega) (by show _ = min 1000000000 (_ + 0); rw [Int.add_zero])
    have go : mm_r197_87 E (mm_ev E d) (n + 20) (mm_ad B 101) (mm_i s) x2 x3 x4 (mm_i cu) (mm_i t) o7 (mm_hp B (S.sA 112 b) c) = mm_r197_122 E (mm_ev E d) (n + 19) (mm_ad B 101) (mm_i s) x2 x3 x4 (mm_i cu) (mm_i t) (mm_i ((0 : Nat) : Int)) (mm_hp B (S.sA 112 (mm_u b t (bb_mo f s t))) c) := by
      rw [mm_e197_87]
      simp (disch := omega) only [mm_ptM, mm_gs, hH, mm_br_lt]
      rw [if_neg (by omega), m_mayBe hd hM' s0 s1 t0 (by omega), mm_cI_ok, mm_br_b1]
      unfold bb_mo
      by_cases q : bb_hl (fun k => f (3 + k)) s t = true
      · rw [if_pos q, if_pos q]
        simp (disch := omega) only [mm_ptM, mm_gs]
        rfl
      · rw [if_neg q, if_neg q]
        simp (disch := omega) only [mm_ptM, mm_gs]
        rfl
    obtain ⟨n2, b', q7, t1, t2, t3⟩ := ih n' (t + 1) (mm_u b t v') p7 (by omega) (by omega) (by omega) (fun i i0 i1 => by
      by_cases e : i = t
      · rw [e, mm_u_eq]; exact ⟨r2, r3⟩
      · rw [mm_u_ne e]; exact h i i0 (by omega))
    exact ⟨n2, b', q7, by omega, t2, by rw [go, r4]; exact t3⟩
end
