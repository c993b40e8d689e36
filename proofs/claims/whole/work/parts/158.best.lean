/-! BEST, told of a row alone -/
def bb_F (f t : Int → Int) : Prop := ∀ u : Int, 0 ≤ u → u < (f 0) → 0 ≤ t u ∧ 0 ≤ pp_pw (f 0) (pp_Wr f) (fun u => f (3 + 7 * u + 2)) t u + f (3 + 7 * u + 0) - t u ∧ bb_hl (fun k => f (3 + k)) u (t u) = true
noncomputable def bb_P (f wd t : Int → Int) : Int := pp_sm (fun u => bb_mp f wd u (pp_pw (f 0) (pp_Wr f) (fun u => f (3 + 7 * u + 2)) t u + f (3 + 7 * u + 0) - t u)) ((f 0)).toNat
def bb_isB (f wd : Int → Int) (v : Int) : Prop := (v = -1 ∧ ∀ t, ¬ bb_F f t) ∨ ∃ t, bb_F f t ∧ v = bb_P f wd t ∧ ∀ t', bb_F f t' → v ≤ bb_P f wd t'
/-- the least times of the cheapest -/
def bb_lx (f wd t : Int → Int) : Prop := bb_F f t ∧ (∀ t', bb_F f t' → bb_P f wd t ≤ bb_P f wd t') ∧ ∀ s : Int, 0 ≤ s → s < (f 0) → ∀ t', bb_F f t' → bb_P f wd t' = bb_P f wd t → (∀ u : Int, 0 ≤ u → u < s → t' u = t u) → t s ≤ t' s
theorem bb_isB_one {f wd : Int → Int} {v w : Int} (h : bb_isB f wd v) (g : bb_isB f wd w) : v = w := by
  rcases h with ⟨h1, h2⟩ | ⟨t, h1, h2, h3⟩
  · rcases g with ⟨g1, _⟩ | ⟨t, g1, _, _⟩
    · omega
    · exact absurd g1 (h2 t)
  · rcases g with ⟨_, g2⟩ | ⟨t', g1, g2, g3⟩
    · exact absurd h1 (g2 t)
    · have := h3 t' g1
      have := g3 t h1
      omega
theorem bb_lx_one {f wd t t' : Int → Int} (h : bb_lx f wd t) (g : bb_lx f wd t') : ∀ u : Int, 0 ≤ u → u < (f 0) → t u = t' u := by
  have e : bb_P f wd t = bb_P f wd t' := Int.le_antisymm (h.2.1 t' g.1) (g.2.1 t h.1)
  have key : ∀ (k : Nat) (u : Int), u.toNat < k → 0 ≤ u → u < (f 0) → t u = t' u := by
    intro k
    induction k with
    | zero => intro u hu; omega
    | succ k ih =>
      intro u hu u0 u1
      have a1 := h.2.2 u u0 u1 t' g.1 e.symm (fun x x0 x1 => (ih x (by omega) x0 (by omega)).symm)
      have a2 := g.2.2 u u0 u1 t h.1 e (fun x x0 x1 => ih x (by omega) x0 (by omega))
      omega
  exact fun u u0 u1 => key (u.toNat + 1) u (by omega) u0 u1
/-- no time is later than the longest way -/
theorem bb_F_le {f wd L t : Int → Int} (hS : bb_RS f wd L) (h : bb_F f t) : ∀ u : Int, 0 ≤ u → u < (f 0) → t u ≤ L u := by
  obtain ⟨_, h2, _, ps, hB⟩ := hS
  have key : ∀ (k : Nat) (u : Int), ps u < k → 0 ≤ u → u < (f 0) → t u ≤ L u := by
    intro k
    induction k with
    | zero => intro u hu; omega
    | succ k ih =>
      intro u hu u0 u1
      have p := (h u u0 u1).2.1
      have l := h2 u u0 u1
      have w : pp_pw (f 0) (pp_Wr f) (fun u => f (3 + 7 * u + 2)) t u ≤ pp_gx (f (3 + 7 * u + 2)) (fun k => (pp_Wr f) k u) L ((f 0)).toNat := by
        refine pp_gx_le _ (pp_gx_ge _ _ _ _) (fun i i0 i1 hi => ?_)
        have := ih i (by have := hB.2 i u hi; omega) i0 (by omega)
        have := pp_gx_of (b := f (3 + 7 * u + 2)) (p := fun k => (pp_Wr f) k u) (g := L) ((f 0)).toNat i i0 i1 hi
        omega
      omega
  exact fun u u0 u1 => key (ps u + 1) u (by omega) u0 u1
/-- widths are one -/
theorem bb_FQ_one {n : Int} {W : pp_W} {g G G' : Int → Int} {ps : Int → Nat} (hW : pp_IN n W) (hB : pp_RB W ps) (h : pp_FQ n g W G) (h' : pp_FQ n g W G') : ∀ s : Int, 0 ≤ s → s < n → G s = G' s := by
  have key : ∀ (k : Nat) (s : Int), 12 - ps s < k → 0 ≤ s → s < n → G s = G' s := by
    intro k
    induction k with
    | zero => intro s hs; omega
    | succ k ih =>
      intro s hs s0 s1
      rw [h s s0 s1, h' s s0 s1]
      congr 1
      apply pp_sm_congr
      intro i i0 i1
      show (if W s i = true then G i else 0) = if W s i = true then G' i else 0
      by_cases q : W s i = true
      · have := hB.2 s i q
        have := hB.1 i
        rw [if_pos q, if_pos q, ih i (by omega) i0 (by omega)]
      · rw [if_neg q, if_neg q]
  exact fun s s0 s1 => key (12 - ps s + 1) s (by omega) s0 s1
theorem bb_P_wd {f wd wd' t : Int → Int} (h : ∀ s : Int, 0 ≤ s → s < (f 0) → wd s = wd' s) : bb_P f wd t = bb_P f wd' t := by
  apply pp_sm_congr
  intro u u0 u1
  unfold bb_mp
  rw [h u u0 (by omega)]
theorem bb_isB_wd {f wd wd' L L' : Int → Int} {v : Int} (hS : bb_RS f wd L) (hS' : bb_RS f wd' L') (h : bb_isB f wd v) : bb_isB f wd' v := by
  obtain ⟨ps, hB⟩ := hS.2.2.2
  have e := bb_FQ_one (pp_Wr_in f) hB hS.1 hS'.1
  have eP : ∀ t, bb_P f wd t = bb_P f wd' t := fun t => bb_P_wd e
  unfold bb_isB at h ⊢
  simp only [eP] at h
  exact h
/-! the model's -/
theorem bb_TO_F {S : mm_S} {f wd L : Int → Int} {H v : Int} (hM : bb_MC S f wd H) (hS : bb_RS f wd L) (hL : ∀ u : Int, 0 ≤ u → u < f 0 → L u ≤ H) : pp_TO (f 0) 1000000000 (pp_Wr f) (fun _ => H) (fun u => f (3 + 7 * u + 2)) (fun u => f (3 + 7 * u + 0)) (bb_mo f) (bb_mp f wd) v ↔ ∃ t, bb_F f t ∧ v = bb_P f wd t := by
  have val : ∀ t : Int → Int, bb_F f t → pp_sm (fun u => pp_pv (f 0) (pp_Wr f) (fun u => f (3 + 7 * u + 2)) (fun u => f (3 + 7 * u + 0)) (bb_mo f) (bb_mp f wd) t u) ((f 0)).toNat = bb_P f wd t := fun t ht => pp_sm_congr _ (fun u u0 u1 => by
    have h := (ht u u0 (by omega)).2.2
    show bb_mo f u (t u) + _ = _
    unfold bb_mo
    rw [if_pos h, Int.zero_add])
  constructor
  · rintro ⟨t, t1, t2⟩
    have ht : bb_F f t := fun u u0 u1 => by
      have p := t1 u u0 u1
      refine ⟨p.1, p.2.2.1, ?_⟩
      have z : bb_mo f u (t u) < 1000000000 := p.2.2.2
      by_cases q : bb_hl (fun k => f (3 + k)) u (t u) = true
      · exact q
      · unfold bb_mo at z
        rw [if_neg q] at z
        omega
    exact ⟨t, ht, t2.trans (val t ht)⟩
  · rintro ⟨t, t1, t2⟩
    refine ⟨t, fun u u0 u1 => ?_, t2.trans (val t t1).symm⟩
    have p := t1 u u0 u1
    refine ⟨p.1, ?_, p.2.1, ?_⟩
    · show t u ≤ H
      have := bb_F_le hS t1 u u0 u1
      have := hL u u0 u1
      omega
    · show bb_mo f u (t u) < 1000000000
      unfold bb_mo
      rw [if_pos p.2.2]
      omega
theorem bb_F_w {S : mm_S} {f wd L t : Int → Int} {H : Int} (hM : bb_MC S f wd H) (hS : bb_RS f wd L) (ht : bb_F f t) {u : Int} (u0 : 0 ≤ u) (u1 : u < f 0) : pp_pw (f 0) (pp_Wr f) (fun u => f (3 + 7 * u + 2)) t u + f (3 + 7 * u + 0) - t u ≤ 999 := by
  have r := bb_ro hM.2.1 u0 u1
  have w : pp_pw (f 0) (pp_Wr f) (fun u => f (3 + 7 * u + 2)) t u ≤ 200 := pp_gx_le _ (by show f (3 + 7 * u + 2) ≤ 200; omega) (fun k k0 k1 _ => by
    have := bb_F_le hS ht k k0 (by omega)
    have := (hS.2.2.1 k k0 (by omega)).1.2
    omega)
  have := (ht u u0 u1).1
  omega
theorem bb_P_r {S : mm_S} {f wd L t : Int → Int} {H : Int} (hM : bb_MC S f wd H) (hS : bb_RS f wd L) (ht : bb_F f t) : 0 ≤ bb_P f wd t ∧ bb_P f wd t < 1000000000 := by
  have n12 := hM.2.1.1
  have pb : ∀ u : Int, 0 ≤ u → u < f 0 → 0 ≤ bb_mp f wd u (pp_pw (f 0) (pp_Wr f) (fun u => f (3 + 7 * u + 2)) t u + f (3 + 7 * u + 0) - t u) ∧ bb_mp f wd u (pp_pw (f 0) (pp_Wr f) (fun u => f (3 + 7 * u + 2)) t u + f (3 + 7 * u + 0) - t u) ≤ 44677278 := fun u u0 u1 => bb_mp_r hM u0 u1 (ht u u0 u1).2.1 (bb_F_w hM hS ht u0 u1)
  have p1 : bb_P f wd t ≤ ((f 0).toNat : Int) * 44677278 := pp_sm_le _ (fun u u0 u1 => (pb u u0 (by omega)).2)
  exact ⟨pp_sm_nn _ (fun u u0 u1 => (pb u u0 (by omega)).1), by omega⟩
theorem bb_BM_B {S : mm_S} {f wd L : Int → Int} {H v : Int} (hM : bb_MC S f wd H) (hS : bb_RS f wd L) (hL : ∀ u : Int, 0 ≤ u → u < f 0 → L u ≤ H) (h : bb_BM f wd H v) : bb_isB f wd v := by
  rcases h with ⟨h1, h2⟩ | ⟨h0, h1, h2⟩
  · refine Or.inl ⟨h1, fun t ht => ?_⟩
    have := h2.2.1 _ ((bb_TO_F hM hS hL).mpr ⟨t, ht, rfl⟩)
    have := (bb_P_r hM hS ht).2
    omega
  · rcases h2.2.2 with z | z
    · omega
    · obtain ⟨t, t1, t2⟩ := (bb_TO_F hM hS hL).mp z
      exact Or.inr ⟨t, t1, t2, fun t' h' => h2.2.1 _ ((bb_TO_F hM hS hL).mpr ⟨t', h', rfl⟩)⟩
/-! the class's -/
section
variable {S : mm_S} {a : Nat} {f : Int → Int}
theorem bb_pw_eq (hR : pp_RO f) (hE : pp_EQ S a f) {t : Int → Int} {u : Int} (u0 : 0 ≤ u) (u1 : u < f 0) : pp_pw (S.I a 10) (pp_Wf (S.I a 10) (S.A (a + 3))) (fun u => S.A (a + 1) (u * 7 + 2)) t u = pp_pw (f 0) (pp_Wr f) (fun u => f (3 + 7 * u + 2)) t u := by
  have eW := pp_EQ_W hR hE
  unfold pp_pw
  rw [eW, hE.1]
  show pp_gx (S.A (a + 1) (u * 7 + 2)) _ _ _ = pp_gx (f (3 + 7 * u + 2)) _ _ _
  rw [hE.2.2.2.1 u 2 u0 u1 (by omega) (by omega)]
theorem bb_hl_eq (hE : pp_EQ S a f) {u t : Int} (u0 : 0 ≤ u) (u1 : u < f 0) : bb_hl (S.A (a + 1)) u t = bb_hl (fun k => f (3 + k)) u t := by
  unfold bb_hl
  rw [hE.2.2.2.1 u 6 u0 u1 (by omega) (by omega), hE.2.2.2.1 u 5 u0 u1 (by omega) (by omega)]
  simp only [show 3 + (u * 7 + 6) = 3 + 7 * u + 6 by omega, show 3 + (u * 7 + 5) = 3 + 7 * u + 5 by omega]
theorem bb_PL_F (hR : pp_RO f) (hE : pp_EQ S a f) (hT : pp_NT S a) {t : Int → Int} : bb_PL S a t ↔ bb_F f t := by
  have hS := bb_RS_of hR hE hT
  constructor
  · intro h u u0 u1
    have p := h u u0 (by rw [hE.1]; exact u1)
    refine ⟨p.1, ?_, ?_⟩
    · have z := p.2.2.1
      rw [bb_pw_eq hR hE u0 u1] at z
      have z : 0 ≤ pp_pw (f 0) (pp_Wr f) (fun u => f (3 + 7 * u + 2)) t u + S.A (a + 1) (u * 7 + 0) - t u := z
      rw [hE.2.2.2.1 u 0 u0 u1 (by omega) (by omega)] at z
      exact z
    · have z : bb_ow (S.A (a + 1)) u (t u) < 5316911983139663491615228241121378304 := p.2.2.2
      rw [← bb_hl_eq hE u0 u1]
      by_cases q : bb_hl (S.A (a + 1)) u (t u) = true
      · exact q
      · unfold bb_ow at z
        rw [if_neg q] at z
        omega
  · intro h u u0 u1
    rw [hE.1] at u1
    have p := h u u0 u1
    have le := bb_F_le hS h u u0 u1
    have l := (hS.2.2.1 u u0 u1).1.2
    have n12 := hR.1
    refine ⟨p.1, le, ?_, ?_⟩
    · rw [bb_pw_eq hR hE u0 u1]
      show 0 ≤ pp_pw (f 0) (pp_Wr f) (fun u => f (3 + 7 * u + 2)) t u + S.A (a + 1) (u * 7 + 0) - t u
      rw [hE.2.2.2.1 u 0 u0 u1 (by omega) (by omega)]
      exact p.2.1
    · have q : bb_hl (S.A (a + 1)) u (t u) = true := (bb_hl_eq hE u0 u1).trans p.2.2
      have ob := (bb_ow_r (T := S.A (a + 1)) (s := u) (t := t u) u0 (by omega) p.1 (by omega)).2.2
      unfold bb_ow
      rw [if_pos q]
      by_cases z : u < 4
      · have := ob.2.2 z
        rw [if_pos z]; omega
      · rw [if_neg z]; omega
theorem bb_pc_P (hR : pp_RO f) (hE : pp_EQ S a f) {t : Int → Int} : bb_pc S a t = bb_P f (S.A (a + 9)) t := by
  unfold bb_pc bb_P
  rw [hE.1]
  apply pp_sm_congr
  intro u u0 u1
  unfold bb_p0 bb_mp
  rw [if_pos rfl, bb_pw_eq hR hE u0 (by omega), hE.2.2.2.1 u 0 u0 (by omega) (by omega) (by omega), hE.2.2.2.1 u 1 u0 (by omega) (by omega) (by omega), hE.2.1]
/-- the times as figures -/
def bb_dg (n : Int) (t : Int → Int) (u : Int) : Int := if u < n then t u else 0
theorem bb_sm_ext {g : Int → Int} {n : Int} (h0 : 0 ≤ n) (h : n ≤ 12) : pp_sm g n.toNat = pp_sm (fun u => if u < n then g u else 0) 12 := by
  have key : ∀ (k : Nat), pp_sm (fun u => if u < n then g u else 0) (n.toNat + k) = pp_sm g n.toNat := by
    intro k
    induction k with
    | zero => exact pp_sm_congr _ (fun i i0 i1 => if_pos (by omega))
    | succ k ih =>
      show pp_sm (fun u => if u < n then g u else 0) (n.toNat + k) + (if ((n.toNat + k : Nat) : Int) < n then g ((n.toNat + k : Nat) : Int) else 0) = _
      rw [ih, if_neg (by omega), Int.add_zero]
  have := key (12 - n.toNat)
  rw [show n.toNat + (12 - n.toNat) = 12 by omega] at this
  exact this.symm
theorem bb_pw_val : bb_pw 0 = 2097152 ∧ bb_pw 1 = 16384 ∧ bb_pw 2 = 128 ∧ bb_pw 3 = 1 ∧ bb_pw 4 = 562949953421312 ∧ bb_pw 5 = 4398046511104 ∧ bb_pw 6 = 34359738368 ∧ bb_pw 7 = 268435456 ∧ bb_pw 8 = 2097152 ∧ bb_pw 9 = 16384 ∧ bb_pw 10 = 128 ∧ bb_pw 11 = 1 := by decide +kernel
theorem bb_T1_dg {n : Int} (h0 : 0 ≤ n) (h : n ≤ 12) (t : Int → Int) : pp_sm (bb_t1 (fun _ => true) t) n.toNat = bb_dg n t 0 * 2097152 + bb_dg n t 1 * 16384 + bb_dg n t 2 * 128 + bb_dg n t 3 := by
  have v := bb_pw_val
  have e : ∀ u : Int, (if u < n then bb_t1 (fun _ => true) t u else 0) = if u < 4 then bb_dg n t u * bb_pw u else 0 := fun u => by
    unfold bb_t1 bb_dg
    by_cases q : u < n
    · rw [if_pos q, if_pos rfl, if_pos q]
    · rw [if_neg q, if_neg q, Int.zero_mul, ite_self]
  rw [bb_sm_ext h0 h, pp_sm_congr 12 (fun i _ _ => e i)]
  show (0 : Int) + (if ((0 : Nat) : Int) < 4 then _ else 0) + (if ((1 : Nat) : Int) < 4 then _ else 0) + (if ((2 : Nat) : Int) < 4 then _ else 0) + (if ((3 : Nat) : Int) < 4 then _ else 0) + (if ((4 : Nat) : Int) < 4 then _ else 0) + (if ((5 : Nat) : Int) < 4 then _ else 0) + (if ((6 : Nat) : Int) < 4 then _ else 0) + (if ((7 : Nat) : Int) < 4 then _ else 0) + (if ((8 : Nat) : Int) < 4 then _ else 0) + (if ((9 : Nat) : Int) < 4 then _ else 0) + (if ((10 : Nat) : Int) < 4 then _ else 0) + (if ((11 : Nat) : Int) < 4 then _ else 0) = _
  rw [if_pos (by omega), if_pos (by omega), if_pos (by omega), if_pos (by omega), if_neg (by omega), if_neg (by omega), if_neg (by omega), if_neg (by omega), if_neg (by omega), if_neg (by omega), if_neg (by omega), if_neg (by omega)]
  show 0 + bb_dg n t 0 * bb_pw 0 + bb_dg n t 1 * bb_pw 1 + bb_dg n t 2 * bb_pw 2 + bb_dg n t 3 * bb_pw 3 + 0 + 0 + 0 + 0 + 0 + 0 + 0 + 0 = _
  rw [v.1, v.2.1, v.2.2.1, v.2.2.2.1]
  omega
theorem bb_T2_dg {n : Int} (h0 : 0 ≤ n) (h : n ≤ 12) (t : Int → Int) : pp_sm (bb_t2 (fun _ => true) t) n.toNat = bb_dg n t 4 * 562949953421312 + bb_dg n t 5 * 4398046511104 + bb_dg n t 6 * 34359738368 + bb_dg n t 7 * 268435456 + bb_dg n t 8 * 2097152 + bb_dg n t 9 * 16384 + bb_dg n t 10 * 128 + bb_dg n t 11 := by
  have v := bb_pw_val
  have e : ∀ u : Int, (if u < n then bb_t2 (fun _ => true) t u else 0) = if u < 4 then 0 else bb_dg n t u * bb_pw u := fun u => by
    unfold bb_t2 bb_dg
    by_cases q : u < n
    · rw [if_pos q, if_pos rfl, if_pos q]
    · rw [if_neg q, if_neg q, Int.zero_mul, ite_self]
  rw [bb_sm_ext h0 h, pp_sm_congr 12 (fun i _ _ => e i)]
  show (0 : Int) + (if ((0 : Nat) : Int) < 4 then 0 else _) + (if ((1 : Nat) : Int) < 4 then 0 else _) + (if ((2 : Nat) : Int) < 4 then 0 else _) + (if ((3 : Nat) : Int) < 4 then 0 else _) + (if ((4 : Nat) : Int) < 4 then 0 else _) + (if ((5 : Nat) : Int) < 4 then 0 else _) + (if ((6 : Nat) : Int) < 4 then 0 else _) + (if ((7 : Nat) : Int) < 4 then 0 else _) + (if ((8 : Nat) : Int) < 4 then 0 else _) + (if ((9 : Nat) : Int) < 4 then 0 else _) + (if ((10 : Nat) : Int) < 4 then 0 else _) + (if ((11 : Nat) : Int) < 4 then 0 else _) = _
  rw [if_pos (by omega), if_pos (by omega), if_pos (by omega), if_pos (by omega), if_neg (by omega), if_neg (by omega), if_neg (by omega), if_neg (by omega), if_neg (by omega), if_neg (by omega), if_neg (by omega), if_neg (by omega)]
  show (0 : Int) + 0 + 0 + 0 + 0 + bb_dg n t 4 * bb_pw 4 + bb_dg n t 5 * bb_pw 5 + bb_dg n t 6 * bb_pw 6 + bb_dg n t 7 * bb_pw 7 + bb_dg n t 8 * bb_pw 8 + bb_dg n t 9 * bb_pw 9 + bb_dg n t 10 * bb_pw 10 + bb_dg n t 11 * bb_pw 11 = _
  rw [v.2.2.2.2.1, v.2.2.2.2.2.1, v.2.2.2.2.2.2.1, v.2.2.2.2.2.2.2.1, v.2.2.2.2.2.2.2.2.1, v.2.2.2.2.2.2.2.2.2.1, v.2.2.2.2.2.2.2.2.2.2.1, v.2.2.2.2.2.2.2.2.2.2.2]
  omega
theorem bb_dg_r (hR : pp_RO f) (hE : pp_EQ S a f) (hT : pp_NT S a) {t : Int → Int} (ht : bb_F f t) {u : Int} (u0 : 0 ≤ u) : 0 ≤ bb_dg (f 0) t u ∧ bb_dg (f 0) t u ≤ 127 := by
  have hS := bb_RS_of hR hE hT
  unfold bb_dg
  by_cases q : u < f 0
  · rw [if_pos q]
    have := (ht u u0 q).1
    have := bb_F_le hS ht u u0 q
    have := (hS.2.2.1 u u0 q).1.2
    omega
  · rw [if_neg q]; omega
/-- what the class finds is the price of the best, its times are the least -/
theorem bb_BS_lx {T : mm_S} {v : Int} (hR : pp_RO f) (hE : pp_EQ S a f) (hT : pp_NT S a) (h : bb_BS S T a v) : bb_isB f (S.A (a + 9)) v ∧ (v ≠ -1 → ∃ t, bb_lx f (S.A (a + 9)) t ∧ T.J 40 8 = v * 268435456 + (bb_dg (f 0) t 0 * 2097152 + bb_dg (f 0) t 1 * 16384 + bb_dg (f 0) t 2 * 128 + bb_dg (f 0) t 3) ∧ T.J 40 9 = bb_dg (f 0) t 4 * 562949953421312 + bb_dg (f 0) t 5 * 4398046511104 + bb_dg (f 0) t 6 * 34359738368 + bb_dg (f 0) t 7 * 268435456 + bb_dg (f 0) t 8 * 2097152 + bb_dg (f 0) t 9 * 16384 + bb_dg (f 0) t 10 * 128 + bb_dg (f 0) t 11) := by
  have n12 := hR.1
  have eN := hE.1
  rcases h with ⟨h1, h2⟩ | ⟨t, h1, h2, h3, h4, h5⟩
  · exact ⟨Or.inl ⟨h1, fun t ht => h2 t ((bb_PL_F hR hE hT).mpr ht)⟩, fun z => absurd h1 z⟩
  · have ft := (bb_PL_F hR hE hT).mp h1
    have d := bb_vl_dec hT h1
    have T1e : bb_T1 S a t = bb_dg (f 0) t 0 * 2097152 + bb_dg (f 0) t 1 * 16384 + bb_dg (f 0) t 2 * 128 + bb_dg (f 0) t 3 := by
      unfold bb_T1
      rw [eN]; exact bb_T1_dg n12.1 n12.2 t
    have T2e : bb_T2 S a t = bb_dg (f 0) t 4 * 562949953421312 + bb_dg (f 0) t 5 * 4398046511104 + bb_dg (f 0) t 6 * 34359738368 + bb_dg (f 0) t 7 * 268435456 + bb_dg (f 0) t 8 * 2097152 + bb_dg (f 0) t 9 * 16384 + bb_dg (f 0) t 10 * 128 + bb_dg (f 0) t 11 := by
      unfold bb_T2
      rw [eN]; exact bb_T2_dg n12.1 n12.2 t
    have le : ∀ t', bb_F f t' → bb_P f (S.A (a + 9)) t ≤ bb_P f (S.A (a + 9)) t' := by
      intro t' h'
      have p' := (bb_PL_F hR hE hT).mpr h'
      have d' := bb_vl_dec hT p'
      have m := h2 t' p'
      rw [bb_pc_P hR hE] at d d'
      omega
    refine ⟨Or.inr ⟨t, ft, by rw [h3]; exact bb_pc_P hR hE, fun t' h' => by rw [h3, bb_pc_P hR hE]; exact le t' h'⟩, fun _ => ⟨t, ⟨ft, le, ?_⟩, by rw [h4, T1e], by rw [h5, T2e]⟩⟩
    intro s s0 s1 t' h' eP eu
    have p' := (bb_PL_F hR hE hT).mpr h'
    have d' := bb_vl_dec hT p'
    have m := h2 t' p'
    rw [bb_pc_P hR hE] at d d'
    have T1e' : bb_T1 S a t' = bb_dg (f 0) t' 0 * 2097152 + bb_dg (f 0) t' 1 * 16384 + bb_dg (f 0) t' 2 * 128 + bb_dg (f 0) t' 3 := by
      unfold bb_T1
      rw [eN]; exact bb_T1_dg n12.1 n12.2 t'
    have T2e' : bb_T2 S a t' = bb_dg (f 0) t' 4 * 562949953421312 + bb_dg (f 0) t' 5 * 4398046511104 + bb_dg (f 0) t' 6 * 34359738368 + bb_dg (f 0) t' 7 * 268435456 + bb_dg (f 0) t' 8 * 2097152 + bb_dg (f 0) t' 9 * 16384 + bb_dg (f 0) t' 10 * 128 + bb_dg (f 0) t' 11 := by
      unfold bb_T2
      rw [eN]; exact bb_T2_dg n12.1 n12.2 t'
    have es : ∀ u : Int, 0 ≤ u → u < s → bb_dg (f 0) t' u = bb_dg (f 0) t u := fun u u0 u1 => by
      unfold bb_dg
      rw [eu u u0 u1]
    have e1 : bb_dg (f 0) t s = t s := if_pos s1
    have e2 : bb_dg (f 0) t' s = t' s := if_pos s1
    have b := fun u u0 => bb_dg_r (u := u) hR hE hT ft u0
    have b' := fun u u0 => bb_dg_r (u := u) hR hE hT h' u0
    have b0 := b 0 (by omega); have b1 := b 1 (by omega); have b2 := b 2 (by omega); have b3 := b 3 (by omega); have b4 := b 4 (by omega); have b5 := b 5 (by omega); have b6 := b 6 (by omega); have b7 := b 7 (by omega); have b8 := b 8 (by omega); have b9 := b 9 (by omega); have b10 := b 10 (by omega); have b11 := b 11 (by omega)
    have c0 := b' 0 (by omega); have c1 := b' 1 (by omega); have c2 := b' 2 (by omega); have c3 := b' 3 (by omega); have c4 := b' 4 (by omega); have c5 := b' 5 (by omega); have c6 := b' 6 (by omega); have c7 := b' 7 (by omega); have c8 := b' 8 (by omega); have c9 := b' 9 (by omega); have c10 := b' 10 (by omega); have c11 := b' 11 (by omega)
    rw [← e1, ← e2]
    have m1 : bb_T1 S a t < bb_T1 S a t' ∨ (bb_T1 S a t = bb_T1 S a t' ∧ bb_T2 S a t ≤ bb_T2 S a t') := by omega
    rw [T1e, T1e', T2e, T2e'] at m1
    clear T1e T1e' T2e T2e' d d' m le h4 h5
    rcases (by omega : s = 0 ∨ s = 1 ∨ s = 2 ∨ s = 3 ∨ s = 4 ∨ s = 5 ∨ s = 6 ∨ s = 7 ∨ s = 8 ∨ s = 9 ∨ s = 10 ∨ s = 11) with z | z | z | z | z | z | z | z | z | z | z | z
    · subst z; omega
    · subst z
      have := es 0 (by omega) (by omega)
      omega
    · subst z
      have := es 0 (by omega) (by omega); have := es 1 (by omega) (by omega)
      omega
    · subst z
      have := es 0 (by omega) (by omega); have := es 1 (by omega) (by omega); have := es 2 (by omega) (by omega)
      omega
    · subst z
      have := es 0 (by omega) (by omega); have := es 1 (by omega) (by omega); have := es 2 (by omega) (by omega); have := es 3 (by omega) (by omega)
      omega
    · subst z
      have := es 0 (by omega) (by omega); have := es 1 (by omega) (by omega); have := es 2 (by omega) (by omega); have := es 3 (by omega) (by omega); have := es 4 (by omega) (by omega)
      omega
    · subst z
      have := es 0 (by omega) (by omega); have := es 1 (by omega) (by omega); have := es 2 (by omega) (by omega); have := es 3 (by omega) (by omega); have := es 4 (by omega) (by omega); have := es 5 (by omega) (by omega)
      omega
    · subst z
      have := es 0 (by omega) (by omega); have := es 1 (by omega) (by omega); have := es 2 (by omega) (by omega); have := es 3 (by omega) (by omega); have := es 4 (by omega) (by omega); have := es 5 (by omega) (by omega); have := es 6 (by omega) (by omega)
      omega
    · subst z
      have := es 0 (by omega) (by omega); have := es 1 (by omega) (by omega); have := es 2 (by omega) (by omega); have := es 3 (by omega) (by omega); have := es 4 (by omega) (by omega); have := es 5 (by omega) (by omega); have := es 6 (by omega) (by omega); have := es 7 (by omega) (by omega)
      omega
    · subst z
      have := es 0 (by omega) (by omega); have := es 1 (by omega) (by omega); have := es 2 (by omega) (by omega); have := es 3 (by omega) (by omega); have := es 4 (by omega) (by omega); have := es 5 (by omega) (by omega); have := es 6 (by omega) (by omega); have := es 7 (by omega) (by omega); have := es 8 (by omega) (by omega)
      omega
    · subst z
      have := es 0 (by omega) (by omega); have := es 1 (by omega) (by omega); have := es 2 (by omega) (by omega); have := es 3 (by omega) (by omega); have := es 4 (by omega) (by omega); have := es 5 (by omega) (by omega); have := es 6 (by omega) (by omega); have := es 7 (by omega) (by omega); have := es 8 (by omega) (by omega); have := es 9 (by omega) (by omega)
      omega
    · subst z
      have := es 0 (by omega) (by omega); have := es 1 (by omega) (by omega); have := es 2 (by omega) (by omega); have := es 3 (by omega) (by omega); have := es 4 (by omega) (by omega); have := es 5 (by omega) (by omega); have := es 6 (by omega) (by omega); have := es 7 (by omega) (by omega); have := es 8 (by omega) (by omega); have := es 9 (by omega) (by omega); have := es 10 (by omega) (by omega)
      omega
end
