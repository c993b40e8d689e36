/-! ALL PARTS together, and the cells by the waits -/
section
variable {n F : Int} {W : pp_W} {U o dy : Int → Int} {ow pr c : Int → Int → Int}
def pp_TO (n F : Int) (W : pp_W) (U o dy : Int → Int) (ow pr : Int → Int → Int) (v : Int) : Prop := ∃ t : Int → Int, (∀ u, 0 ≤ u → u < n → pp_pf n F W U o dy ow t u) ∧ v = pp_sm (fun u => pp_pv n W o dy ow pr t u) n.toNat
/-- one of each part -/
def pp_RT (n : Int) (W : pp_W) (R : Int → Bool) : Prop := (∀ u, 0 ≤ u → u < n → ∃ r, R r = true ∧ 0 ≤ r ∧ r < n ∧ pp_cn W r u) ∧ (∀ r q, R r = true → R q = true → 0 ≤ r → r < n → 0 ≤ q → q < n → pp_cn W r q → r = q)
theorem pp_sd_root (hW : pp_IN n W) {r u : Int} (h : 0 ≤ r) : pp_sd W r (-1) u ↔ pp_cn W r u := by
  constructor
  · exact fun g => pp_cn_mo g (fun a b e => (pp_ct_t.mp e).1)
  · exact fun g => pp_cn_mo g (fun a b e => pp_ct_t.mpr ⟨e, fun z => by
      have := hW a b e
      omega⟩)
theorem pp_rt_sum (hW : pp_IN n W) {R : Int → Bool} (hT : pp_RT n W R) (g : Int → Int) : pp_sm g n.toNat = pp_sm (fun r => if R r = true then pp_sm (fun u => if pp_sb W r (-1) u = true then g u else 0) n.toNat else 0) n.toNat := by
  have z : pp_sm (fun r => if R r = true then pp_sm (fun u => if pp_sb W r (-1) u = true then g u else 0) n.toNat else 0) n.toNat = pp_sm (fun u => pp_sm (fun r => if R r = true then (if pp_sb W r (-1) u = true then g u else 0) else 0) n.toNat) n.toNat := by
    rw [← pp_sm_swap]
    apply pp_sm_congr
    intro k _ _
    by_cases c : R k = true
    · simp only [if_pos c]
    · simp only [if_neg c]
      exact (pp_sm_zero n.toNat (fun _ _ _ => rfl)).symm
  rw [z]
  apply pp_sm_congr
  intro u u1 u2
  obtain ⟨r, r1, r2, r3, r4⟩ := hT.1 u u1 (by omega)
  show g u = pp_sm (fun r => if R r = true then (if pp_sb W r (-1) u = true then g u else 0) else 0) n.toNat
  rw [pp_sm_one (j := r) n.toNat r2 (by omega) ?_]
  · show _ = (if R r = true then (if pp_sb W r (-1) u = true then g u else 0) else 0)
    rw [if_pos r1, if_pos (pp_sb_t.mpr ((pp_sd_root hW r2).mpr r4))]
  · intro i i1 i2 hi
    show (if R i = true then (if pp_sb W i (-1) u = true then g u else 0) else 0) = 0
    by_cases c : R i = true
    · rw [if_pos c, if_neg (fun z => hi (hT.2 i r c r1 i1 (by omega) r2 r3 (pp_cn_tr ((pp_sd_root hW i1).mp (pp_sb_t.mp z)) (pp_cn_sy r4))))]
    · rw [if_neg c]
theorem pp_dpR (hW : pp_IN n W) {R : Int → Bool} (hT : pp_RT n W R) {l : Int → Int} (hl : ∀ r, R r = true → 0 ≤ r → r < n → 0 ≤ l r ∧ pp_mi F (fun v => ∃ t, pp_FE n F W U o dy ow r (-1) t ∧ v = pp_SU n W o dy ow pr r (-1) t) (l r)) : pp_mi F (pp_TO n F W U o dy ow pr) (min F (pp_sm (fun r => if R r = true then l r else 0) n.toNat)) := by
  have n1 : ∀ r : Int, 0 ≤ r → r < n.toNat → 0 ≤ (if R r = true then l r else 0) := fun r r1 r2 => by
    by_cases z : R r = true
    · rw [if_pos z]; exact (hl r z r1 (by omega)).1
    · rw [if_neg z]; exact Int.le_refl 0
  refine ⟨by omega, ?_, ?_⟩
  · rintro _ ⟨t, t1, rfl⟩
    rw [pp_rt_sum hW hT (fun u => pp_pv n W o dy ow pr t u)]
    have a : pp_sm (fun r => if R r = true then l r else 0) n.toNat ≤ pp_sm (fun r => if R r = true then pp_sm (fun u => if pp_sb W r (-1) u = true then pp_pv n W o dy ow pr t u else 0) n.toNat else 0) n.toNat := by
      apply pp_sm_mono
      intro r r1 r2
      show (if R r = true then _ else (0 : Int)) ≤ if R r = true then _ else 0
      by_cases q : R r = true
      · rw [if_pos q, if_pos q]
        exact (hl r q r1 (by omega)).2.2.1 _ ⟨t, fun u hu => by
          have := pp_sd_rg hW r1 (by omega) hu
          exact t1 u this.1 this.2, rfl⟩
      · rw [if_neg q, if_neg q]
        exact Int.le_refl 0
    omega
  · by_cases q : pp_sm (fun r => if R r = true then l r else 0) n.toNat < F
    · refine Or.inr ?_
      rw [show min F (pp_sm (fun r => if R r = true then l r else 0) n.toNat) = pp_sm (fun r => if R r = true then l r else 0) n.toNat by omega]
      have ex : ∀ r, ∃ t : Int → Int, R r = true → 0 ≤ r → r < n → pp_FE n F W U o dy ow r (-1) t ∧ l r = pp_SU n W o dy ow pr r (-1) t := by
        intro r
        by_cases z : R r = true ∧ 0 ≤ r ∧ r < n
        · have g : (if R r = true then l r else 0) ≤ pp_sm (fun r => if R r = true then l r else 0) n.toNat := pp_sm_ge (g := fun r => if R r = true then l r else 0) n.toNat n1 z.2.1 (by omega)
          rw [if_pos z.1] at g
          rcases (hl r z.1 z.2.1 z.2.2).2.2.2 with e | ⟨t, e1, e2⟩
          · omega
          · exact ⟨t, fun _ _ _ => ⟨e1, e2⟩⟩
        · exact ⟨fun _ => 0, fun a b c => absurd ⟨a, b, c⟩ z⟩
      obtain ⟨tk, htk⟩ := Classical.axiomOfChoice ex
      have ey : ∀ u, ∃ r, 0 ≤ u → u < n → R r = true ∧ 0 ≤ r ∧ r < n ∧ pp_cn W r u := by
        intro u
        by_cases z : 0 ≤ u ∧ u < n
        · obtain ⟨r, hr⟩ := hT.1 u z.1 z.2
          exact ⟨r, fun _ _ => hr⟩
        · exact ⟨0, fun a b => absurd ⟨a, b⟩ z⟩
      obtain ⟨rt, hrt⟩ := Classical.axiomOfChoice ey
      have key : ∀ r u, R r = true → 0 ≤ r → r < n → pp_sd W r (-1) u → pp_pf n F W U o dy ow (fun u => tk (rt u) u) u ∧ pp_pv n W o dy ow pr (fun u => tk (rt u) u) u = pp_pv n W o dy ow pr (tk r) u := by
        intro r u a1 a2 a3 hu
        have one : ∀ v, pp_cn W r v → tk (rt v) v = tk r v := by
          intro v hv
          have rv : 0 ≤ v ∧ v < n := by
            rcases pp_cn_in hW hv with z | z
            · omega
            · exact z
          obtain ⟨b1, b2, b3, b4⟩ := hrt v rv.1 rv.2
          rw [hT.2 _ r b1 a1 b2 b3 a2 a3 (pp_cn_tr b4 (pp_cn_sy hv))]
        have cu := (pp_sd_root hW a2).mp hu
        have e0 := one u cu
        have e1 : ∀ k, W k u = true → tk (rt k) k = tk r k := fun k hk => one k (pp_cn_st cu (Or.inr hk))
        exact ⟨pp_pf_cg (t := fun u => tk (rt u) u) e0 e1 ((htk r a1 a2 a3).1 u hu), pp_pv_cg (t := fun u => tk (rt u) u) e0 e1⟩
      refine ⟨fun u => tk (rt u) u, fun u u1 u2 => ?_, ?_⟩
      · obtain ⟨r, r1, r2, r3, r4⟩ := hT.1 u u1 u2
        exact (key r u r1 r2 r3 ((pp_sd_root hW r2).mpr r4)).1
      · rw [pp_rt_sum hW hT (fun u => pp_pv n W o dy ow pr (fun u => tk (rt u) u) u)]
        apply pp_sm_congr
        intro r r1 r2
        show (if R r = true then _ else (0 : Int)) = if R r = true then _ else 0
        by_cases z : R r = true
        · rw [if_pos z, if_pos z, (htk r z r1 (by omega)).2]
          unfold pp_SU
          apply pp_sm_congr
          intro u u1 u2
          show (if pp_sb W r (-1) u = true then _ else (0 : Int)) = if pp_sb W r (-1) u = true then _ else 0
          by_cases y : pp_sb W r (-1) u = true
          · rw [if_pos y, if_pos y, (key r u z r1 (by omega) (pp_sb_t.mp y)).2]
          · rw [if_neg y, if_neg y]
        · rw [if_neg z, if_neg z]
    · exact Or.inl (by omega)
end
/-! waits: all suppliers no later than w (xb), the latest just w (xj) -/
section
variable {F oo : Int} {q : Int → Bool} {U : Int → Int} {c : Int → Int → Int}
def pp_xb (oo : Int) (q : Int → Bool) (U : Int → Int) (c : Int → Int → Int) (j : Nat) (w v : Int) : Prop := ∃ y : Int → Int, (∀ k : Int, 0 ≤ k → k < j → q k = true → 0 ≤ y k ∧ y k ≤ U k) ∧ pp_gx oo q y j ≤ w ∧ v = pp_sm (fun k => if q k = true then c k (y k) else 0) j
def pp_xj (oo : Int) (q : Int → Bool) (U : Int → Int) (c : Int → Int → Int) (j : Nat) (w v : Int) : Prop := ∃ y : Int → Int, (∀ k : Int, 0 ≤ k → k < j → q k = true → 0 ≤ y k ∧ y k ≤ U k) ∧ pp_gx oo q y j = w ∧ v = pp_sm (fun k => if q k = true then c k (y k) else 0) j
theorem pp_xb_0 {w : Int} (hF : 0 ≤ F) : pp_mi F (pp_xb oo q U c 0 w) (if w < oo then F else 0) := by
  by_cases h : w < oo
  · rw [if_pos h]
    refine pp_mi_no ?_
    rintro x ⟨y, _, y2, _⟩
    have y2 : oo ≤ w := y2
    omega
  · rw [if_neg h]
    refine ⟨hF, ?_, Or.inr ⟨fun _ => 0, fun k a b => by omega, (by omega : oo ≤ w), rfl⟩⟩
    rintro x ⟨y, _, _, rfl⟩
    exact Int.le_refl 0
theorem pp_xj_0 {w : Int} (hF : 0 ≤ F) : pp_mi F (pp_xj oo q U c 0 w) (if w = oo then 0 else F) := by
  by_cases h : w = oo
  · rw [if_pos h]
    refine ⟨hF, ?_, Or.inr ⟨fun _ => 0, fun k a b => by omega, h.symm, rfl⟩⟩
    rintro x ⟨y, _, _, rfl⟩
    exact Int.le_refl 0
  · rw [if_neg h]
    refine pp_mi_no ?_
    rintro x ⟨y, _, y2, _⟩
    exact absurd (show oo = w from y2).symm h
theorem pp_x_n {j : Nat} {w v : Int} (h : q j = false) : (pp_xb oo q U c (j + 1) w v ↔ pp_xb oo q U c j w v) ∧ (pp_xj oo q U c (j + 1) w v ↔ pp_xj oo q U c j w v) := by
  have hn : ¬ (q j = true) := by rw [h]; exact Bool.false_ne_true
  have e1 : ∀ y, pp_gx oo q y (j + 1) = pp_gx oo q y j := fun y => if_neg hn
  have e2 : ∀ y : Int → Int, pp_sm (fun k => if q k = true then c k (y k) else 0) (j + 1) = pp_sm (fun k => if q k = true then c k (y k) else 0) j := fun y => by
    show _ + (if q j = true then c j (y j) else 0) = _
    rw [if_neg hn, Int.add_zero]
  have e3 : ∀ y : Int → Int, (∀ k : Int, 0 ≤ k → k < (j + 1 : Nat) → q k = true → 0 ≤ y k ∧ y k ≤ U k) ↔ (∀ k : Int, 0 ≤ k → k < j → q k = true → 0 ≤ y k ∧ y k ≤ U k) := fun y => by
    constructor
    · exact fun a k k1 k2 => a k k1 (by omega)
    · intro a k k1 k2 k3
      by_cases e : k = j
      · subst e; exact absurd k3 hn
      · exact a k k1 (by omega) k3
  unfold pp_xb pp_xj
  constructor
  · constructor
    · rintro ⟨y, y1, y2, y3⟩
      exact ⟨y, (e3 y).mp y1, (e1 y) ▸ y2, (e2 y) ▸ y3⟩
    · rintro ⟨y, y1, y2, y3⟩
      exact ⟨y, (e3 y).mpr y1, (e1 y).symm ▸ y2, (e2 y).symm ▸ y3⟩
  · constructor
    · rintro ⟨y, y1, y2, y3⟩
      exact ⟨y, (e3 y).mp y1, (e1 y) ▸ y2, (e2 y) ▸ y3⟩
    · rintro ⟨y, y1, y2, y3⟩
      exact ⟨y, (e3 y).mpr y1, (e1 y).symm ▸ y2, (e2 y).symm ▸ y3⟩
/-- one more, at a time z -/
theorem pp_x_add {j : Nat} {y : Int → Int} {z : Int} (h : q j = true) (hy : ∀ k : Int, 0 ≤ k → k < j → q k = true → 0 ≤ y k ∧ y k ≤ U k) (z1 : 0 ≤ z) (z2 : z ≤ U j) :
    (∀ k : Int, 0 ≤ k → k < (j + 1 : Nat) → q k = true → 0 ≤ mm_u y j z k ∧ mm_u y j z k ≤ U k) ∧ pp_gx oo q (mm_u y j z) (j + 1) = max (pp_gx oo q y j) z ∧ pp_sm (fun k => if q k = true then c k (mm_u y j z k) else 0) (j + 1) = pp_sm (fun k => if q k = true then c k (y k) else 0) j + c j z := by
  refine ⟨fun k k1 k2 k3 => ?_, ?_, ?_⟩
  · by_cases e : k = j
    · subst e; rw [mm_u_eq]; exact ⟨z1, z2⟩
    · rw [mm_u_ne e]; exact hy k k1 (by omega) k3
  · show (if q j = true then max (pp_gx oo q (mm_u y j z) j) (mm_u y j z j) else _) = _
    rw [if_pos h, mm_u_eq, pp_gx_congr (h := y) j (fun i i1 i2 => ⟨rfl, fun _ => mm_u_ne (by omega)⟩)]
  · show pp_sm (fun k => if q k = true then c k (mm_u y j z k) else 0) j + (if q j = true then c j (mm_u y j z j) else 0) = _
    rw [if_pos h, mm_u_eq, pp_sm_congr (h := fun k => if q k = true then c k (y k) else 0) j (fun i i1 i2 => by
      show (if q i = true then c i (mm_u y j z i) else 0) = if q i = true then c i (y i) else 0
      rw [mm_u_ne (by omega)])]
theorem pp_x_sub {j : Nat} {y : Int → Int} (h : q j = true) (hy : ∀ k : Int, 0 ≤ k → k < (j + 1 : Nat) → q k = true → 0 ≤ y k ∧ y k ≤ U k) :
    (∀ k : Int, 0 ≤ k → k < j → q k = true → 0 ≤ y k ∧ y k ≤ U k) ∧ (0 ≤ y j ∧ y j ≤ U j) ∧ pp_gx oo q y (j + 1) = max (pp_gx oo q y j) (y j) ∧ pp_sm (fun k => if q k = true then c k (y k) else 0) (j + 1) = pp_sm (fun k => if q k = true then c k (y k) else 0) j + c j (y j) := by
  refine ⟨fun k k1 k2 k3 => hy k k1 (by omega) k3, hy j (by omega) (by omega) h, ?_, ?_⟩
  · show (if q j = true then max (pp_gx oo q y j) (y j) else _) = _
    rw [if_pos h]
  · show pp_sm (fun k => if q k = true then c k (y k) else 0) j + (if q j = true then c j (y j) else 0) = _
    rw [if_pos h]
/-- the cheapest of one, no later than w -/
def pp_xa (U : Int → Int) (c : Int → Int → Int) (j w v : Int) : Prop := ∃ z : Int, 0 ≤ z ∧ z ≤ U j ∧ z ≤ w ∧ v = c j z
theorem pp_xb_s {j : Nat} {w b m : Int} (h : q j = true) (hb : pp_mi F (pp_xb oo q U c j w) b) (hm : pp_mi F (pp_xa U c j w) m) (b0 : 0 ≤ b) (m0 : 0 ≤ m) : pp_mi F (pp_xb oo q U c (j + 1) w) (min F (b + m)) := by
  refine pp_mi_to (pp_mi_add hb hm b0 m0) ?_ ?_
  · rintro _ ⟨y, y1, y2, rfl⟩
    obtain ⟨g1, g2, g3, g4⟩ := pp_x_sub (oo := oo) (c := c) h y1
    rw [g3] at y2
    exact ⟨_, ⟨_, _, ⟨y, g1, by omega, rfl⟩, ⟨y j, g2.1, g2.2, by omega, rfl⟩, rfl⟩, by rw [g4]; omega⟩
  · rintro _ ⟨x, z, ⟨y, y1, y2, y3⟩, ⟨z, z1, z2, z3, z4⟩, e⟩
    obtain ⟨g1, g2, g3⟩ := pp_x_add (oo := oo) (c := c) h y1 z1 z2
    exact ⟨mm_u y j z, g1, by rw [g2]; omega, by rw [g3]; omega⟩
theorem pp_xj_s {j : Nat} {w b a m l : Int} (h : q j = true) (hb : pp_mi F (pp_xb oo q U c j w) b) (ha : pp_mi F (pp_xj oo q U c j w) a) (hm : pp_mi F (pp_xa U c j w) m) (b0 : 0 ≤ b) (a0 : 0 ≤ a) (m0 : 0 ≤ m) (w0 : 0 ≤ w) (hl : pp_mi F (fun v => w ≤ U j ∧ v = b + c j w) l) (c0 : w ≤ U j → 0 ≤ c j w) : pp_mi F (pp_xj oo q U c (j + 1) w) (min (min F (a + m)) l) := by
  refine pp_mi_to (pp_mi_min (pp_mi_add ha hm a0 m0) hl) ?_ ?_
  · rintro _ ⟨y, y1, y2, rfl⟩
    obtain ⟨g1, g2, g3, g4⟩ := pp_x_sub (oo := oo) (c := c) h y1
    rw [g3] at y2
    by_cases e : pp_gx oo q y j = w
    · exact ⟨_, Or.inl ⟨_, _, ⟨y, g1, e, rfl⟩, ⟨y j, g2.1, g2.2, by omega, rfl⟩, rfl⟩, by rw [g4]; omega⟩
    · have e2 : y j = w := by omega
      have e3 := hb.2.1 _ ⟨y, g1, by omega, rfl⟩
      refine ⟨_, Or.inr ⟨by omega, rfl⟩, ?_⟩
      rw [g4, e2]
      omega
  · rintro hlt (⟨x, z, ⟨y, y1, y2, y3⟩, ⟨z, z1, z2, z3, z4⟩, e⟩ | ⟨e1, e2⟩)
    · obtain ⟨g1, g2, g3⟩ := pp_x_add (oo := oo) (c := c) h y1 z1 z2
      exact ⟨mm_u y j z, g1, by rw [g2]; omega, by rw [g3]; omega⟩
    · have := c0 e1
      rcases hb.2.2 with e3 | ⟨y, y1, y2, y3⟩
      · omega
      · obtain ⟨g1, g2, g3⟩ := pp_x_add (oo := oo) (c := c) (z := w) h y1 w0 e1
        exact ⟨mm_u y j w, g1, by rw [g2]; omega, by rw [g3]; omega⟩
/-- how far waits go -/
theorem pp_x_r {j : Nat} {M w v : Int} (ho : oo ≤ M) (hU : ∀ k : Int, 0 ≤ k → k < j → q k = true → U k ≤ M) (h : pp_xj oo q U c j w v) : oo ≤ w ∧ w ≤ M := by
  obtain ⟨y, y1, y2, _⟩ := h
  rw [← y2]
  exact ⟨pp_gx_ge _ _ _ _, pp_gx_le j ho (fun i i1 i2 i3 => by
    have := y1 i i1 i2 i3
    have := hU i i1 i2 i3
    omega)⟩
/-- the least of sums, of which the first is itself the least of a set -/
theorem pp_mi_fl {R : Int → Prop} {J : Int → Int → Prop} {ju h : Int → Int} {m : Int} (hj : ∀ w, R w → pp_mi F (J w) (ju w)) (h0 : ∀ w, R w → 0 ≤ h w) (hm : pp_mi F (fun v => ∃ w, R w ∧ v = ju w + h w) m) : pp_mi F (fun v => ∃ w a, R w ∧ J w a ∧ v = a + h w) m := by
  refine pp_mi_to hm ?_ ?_
  · rintro _ ⟨w, a, w1, w2, rfl⟩
    have := (hj w w1).2.1 a w2
    exact ⟨_, ⟨w, w1, rfl⟩, by omega⟩
  · rintro hlt ⟨w, w1, w2⟩
    have := h0 w w1
    rcases (hj w w1).2.2 with e | e
    · omega
    · exact ⟨w, _, w1, e, w2⟩
theorem pp_mi_fl2 {R : Int → Prop} {J Q : Int → Int → Prop} {ju qu : Int → Int} {m : Int} (hj : ∀ w, R w → pp_mi F (J w) (ju w)) (hq : ∀ w, R w → pp_mi F (Q w) (qu w)) (j0 : ∀ w, R w → 0 ≤ ju w) (q0 : ∀ w, R w → 0 ≤ qu w) (hm : pp_mi F (fun v => ∃ w, R w ∧ v = ju w + qu w) m) : pp_mi F (fun v => ∃ w a b, R w ∧ J w a ∧ Q w b ∧ v = a + b) m := by
  refine pp_mi_to hm ?_ ?_
  · rintro _ ⟨w, a, b, w1, w2, w3, rfl⟩
    have := (hj w w1).2.1 a w2
    have := (hq w w1).2.1 b w3
    exact ⟨_, ⟨w, w1, rfl⟩, by omega⟩
  · rintro hlt ⟨w, w1, w2⟩
    have := j0 w w1
    have := q0 w w1
    rcases (hj w w1).2.2 with e | e
    · omega
    · rcases (hq w w1).2.2 with e2 | e2
      · omega
      · exact ⟨w, _, _, w1, e, e2, w2⟩
theorem pp_mi_k {X : Int → Prop} {m b : Int} (h : pp_mi F X m) (m0 : 0 ≤ m) (b0 : 0 ≤ b) : pp_mi F (fun v => ∃ x, X x ∧ v = x + b) (min F (m + b)) := by
  refine ⟨by omega, ?_, ?_⟩
  · rintro _ ⟨x, hx, rfl⟩
    have := h.2.1 x hx
    omega
  · by_cases e : m + b < F
    · rcases h.2.2 with g | g
      · omega
      · exact Or.inr ⟨m, g, by omega⟩
    · exact Or.inl (by omega)
end
/-! the two kinds of cells by the waits -/
section
variable {n F : Int} {W : pp_W} {U o dy : Int → Int} {ow pr c : Int → Int → Int} {s p x : Int}
theorem pp_yk_x (hW : pp_IN n W) {y : Int → Int} : pp_yk W U s p y ↔ (∀ k : Int, 0 ≤ k → k < n.toNat → pp_k1 W s p k = true → 0 ≤ y k ∧ y k ≤ U k) := by
  constructor
  · exact fun h k _ _ k3 => h k k3
  · intro h k hk
    have := pp_k1_r hW hk
    exact h k this.1 (by omega) hk
theorem pp_lO_x (hW : pp_IN n W) {v : Int} : pp_lO n W U o dy ow pr c s p x v ↔ ∃ w a, pp_xj (o s) (pp_k1 W s p) U c n.toNat w a ∧ 0 ≤ w + dy s - x ∧ v = a + pr s (w + dy s - x) + pp_bl n W ow c s p x := by
  constructor
  · rintro ⟨y, y1, y2, y3⟩
    refine ⟨_, _, ⟨y, (pp_yk_x hW).mp y1, rfl, rfl⟩, y2, ?_⟩
    rw [y3]
    show pp_bl n W ow c s p x + pr s (pp_yg n W o s p y + dy s - x) + pp_ys n W c s p y = pp_ys n W c s p y + pr s (pp_yg n W o s p y + dy s - x) + pp_bl n W ow c s p x
    omega
  · rintro ⟨w, a, ⟨y, y1, y2, y3⟩, w2, e⟩
    have y2 : pp_yg n W o s p y = w := y2
    have y3 : a = pp_ys n W c s p y := y3
    refine ⟨y, (pp_yk_x hW).mpr y1, by rw [y2]; exact w2, ?_⟩
    rw [y2, e, y3]
    omega
/-- by the own times: the least over the waits -/
theorem pp_cO (hW : pp_IN n W) {M b m : Int} {ju : Int → Int} (o0 : 0 ≤ o s) (oM : o s ≤ M) (hU : ∀ k, pp_k1 W s p k = true → U k ≤ M) (hj : ∀ w, 0 ≤ w → w ≤ M → pp_mi F (pp_xj (o s) (pp_k1 W s p) U c n.toNat w) (ju w)) (hpr : ∀ z, 0 ≤ pr s z) (m0 : 0 ≤ m) (hm : pp_mi F (fun v => ∃ w, (0 ≤ w ∧ w ≤ M ∧ 0 ≤ w + dy s - x) ∧ v = ju w + pr s (w + dy s - x)) m) (hb : min F b = min F (pp_bl n W ow c s p x)) (b0 : 0 ≤ b) (bl0 : 0 ≤ pp_bl n W ow c s p x) : pp_mi F (pp_lO n W U o dy ow pr c s p x) (min F (m + b)) := by
  have e : min F (m + b) = min F (m + pp_bl n W ow c s p x) := by omega
  rw [e]
  have a := pp_mi_k (pp_mi_fl (J := pp_xj (o s) (pp_k1 W s p) U c n.toNat) (fun w h => hj w h.1 h.2.1) (fun w _ => hpr _) hm) m0 bl0
  refine pp_mi_to a ?_ ?_
  · intro v hv
    obtain ⟨w, a, w1, w2, w3⟩ := (pp_lO_x hW).mp hv
    have := pp_x_r oM (fun k k1 k2 k3 => hU k k3) w1
    exact ⟨v, ⟨_, ⟨w, a, ⟨by omega, by omega, w2⟩, w1, rfl⟩, w3⟩, Int.le_refl v⟩
  · rintro _ ⟨_, ⟨w, a, w1, w2, rfl⟩, w3⟩
    exact (pp_lO_x hW).mpr ⟨w, a, w2, w1.2.2, w3⟩
/-- what s and its customers cost by a wait -/
def pp_ot (n : Int) (W : pp_W) (U dy : Int → Int) (ow pr c : Int → Int → Int) (s p w v : Int) : Prop := ∃ t : Int, (0 ≤ t ∧ t ≤ U s ∧ 0 ≤ w + dy s - t) ∧ v = pp_bl n W ow c s p t + pr s (w + dy s - t)
/-- by the times of the supplier -/
theorem pp_cS (hW : pp_IN n W) {M b1 m v : Int} {by_ ju qu : Int → Int} (o0 : 0 ≤ o s) (oM : o s ≤ M) (hU : ∀ k, pp_k1 W s p k = true → U k ≤ M) (hb : ∀ w, 0 ≤ w → w ≤ M → 0 ≤ by_ w ∧ pp_mi F (pp_xb (o s) (pp_k1 W s p) U c n.toNat w) (by_ w)) (hj : ∀ w, 0 ≤ w → w ≤ M → 0 ≤ ju w ∧ pp_mi F (pp_xj (o s) (pp_k1 W s p) U c n.toNat w) (ju w)) (hq : ∀ w, 0 ≤ w → w ≤ M → 0 ≤ qu w ∧ pp_mi F (pp_ot n W U dy ow pr c s p w) (qu w)) (x0 : 0 ≤ x) (xM : x ≤ M) (hm : pp_mi F (fun v => ∃ w, (0 ≤ w ∧ w ≤ M ∧ max x (o s - 1) < w) ∧ v = ju w + qu w) m) (h1 : pp_mi F (fun v => o s ≤ x ∧ v = by_ x + qu x) b1) (hv : v = min b1 m) : pp_mi F (pp_lS n W U o dy ow pr c s p x) v := by
  have a2 := pp_mi_fl2 (J := pp_xj (o s) (pp_k1 W s p) U c n.toNat) (Q := pp_ot n W U dy ow pr c s p) (fun w h => (hj w h.1 h.2.1).2) (fun w h => (hq w h.1 h.2.1).2) (fun w h => (hj w h.1 h.2.1).1) (fun w h => (hq w h.1 h.2.1).1) hm
  have a1 : pp_mi F (fun v => o s ≤ x ∧ ∃ a b, pp_xb (o s) (pp_k1 W s p) U c n.toNat x a ∧ pp_ot n W U dy ow pr c s p x b ∧ v = a + b) b1 := by
    refine pp_mi_to h1 ?_ ?_
    · rintro _ ⟨e, a, b, ha, hb', rfl⟩
      have := (hb x x0 xM).2.2.1 a ha
      have := (hq x x0 xM).2.2.1 b hb'
      exact ⟨_, ⟨e, rfl⟩, by omega⟩
    · rintro hlt ⟨e, e2⟩
      have := (hb x x0 xM).1
      have := (hq x x0 xM).1
      rcases (hb x x0 xM).2.2.2 with g | g
      · omega
      · rcases (hq x x0 xM).2.2.2 with g2 | g2
        · omega
        · exact ⟨e, _, _, g, g2, e2⟩
  rw [hv]
  refine pp_mi_to (pp_mi_min a1 a2) ?_ ?_
  · rintro _ ⟨y, t, y1, t1, t2, t3, rfl⟩
    have y1' := (pp_yk_x hW).mp y1
    have r := pp_x_r (c := c) oM (fun k k1 k2 k3 => hU k k3) ⟨y, y1', rfl, rfl⟩
    have r1 : o s ≤ pp_yg n W o s p y := r.1
    have r2 : pp_yg n W o s p y ≤ M := r.2
    by_cases e : pp_yg n W o s p y ≤ x
    · have ex : max x (pp_yg n W o s p y) = x := by omega
      rw [ex] at t3 ⊢
      exact ⟨_, Or.inl ⟨by omega, _, _, ⟨y, y1', e, rfl⟩, ⟨t, ⟨t1, t2, t3⟩, rfl⟩, rfl⟩, by
        show pp_ys n W c s p y + (pp_bl n W ow c s p t + pr s (x + dy s - t)) ≤ _
        omega⟩
    · have ex : max x (pp_yg n W o s p y) = pp_yg n W o s p y := by omega
      rw [ex] at t3 ⊢
      exact ⟨_, Or.inr ⟨pp_yg n W o s p y, _, _, ⟨by omega, r2, by omega⟩, ⟨y, y1', rfl, rfl⟩, ⟨t, ⟨t1, t2, t3⟩, rfl⟩, rfl⟩, by
        show pp_ys n W c s p y + (pp_bl n W ow c s p t + pr s (pp_yg n W o s p y + dy s - t)) ≤ _
        omega⟩
  · rintro _ (⟨e, a, b, ⟨y, y1, y2, y3⟩, ⟨t, t1, t2⟩, e2⟩ | ⟨w, a, b, w1, ⟨y, y1, y2, y3⟩, ⟨t, t1, t2⟩, e2⟩)
    · have y2 : pp_yg n W o s p y ≤ x := y2
      have y3 : a = pp_ys n W c s p y := y3
      have ex : max x (pp_yg n W o s p y) = x := by omega
      refine ⟨y, t, (pp_yk_x hW).mpr y1, t1.1, t1.2.1, by rw [ex]; exact t1.2.2, ?_⟩
      rw [ex, e2, t2, y3]
      omega
    · have y2 : pp_yg n W o s p y = w := y2
      have y3 : a = pp_ys n W c s p y := y3
      have ex : max x (pp_yg n W o s p y) = w := by omega
      refine ⟨y, t, (pp_yk_x hW).mpr y1, t1.1, t1.2.1, by rw [ex]; exact t1.2.2, ?_⟩
      rw [ex, e2, t2, y3]
      omega
end
