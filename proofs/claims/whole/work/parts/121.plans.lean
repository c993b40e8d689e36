/-! PLANS of a side, what they cost: t the times, U how far they go, o, dy, ow, pr by stage -/
section
variable (n F : Int) (W : pp_W) (U o dy : Int → Int) (ow pr c : Int → Int → Int) (s p x : Int) (t : Int → Int) (u v : Int)
def pp_pw : Int := pp_gx (o u) (fun k => W k u) t n.toNat
def pp_pv : Int := ow u (t u) + pr u (pp_pw n W o t u + dy u - t u)
def pp_pf : Prop := 0 ≤ t u ∧ t u ≤ U u ∧ 0 ≤ pp_pw n W o t u + dy u - t u ∧ ow u (t u) < F
def pp_FE : Prop := ∀ u, pp_sd W s p u → pp_pf n F W U o dy ow t u
noncomputable def pp_SU : Int := pp_sm (fun u => if pp_sb W s p u = true then pp_pv n W o dy ow pr t u else 0) n.toNat
def pp_CO : Prop := ∃ t : Int → Int, pp_FE n F W U o dy ow s p t ∧ t s = x ∧ v = pp_SU n W o dy ow pr s p t
def pp_CS : Prop := ∃ t : Int → Int, pp_FE n F W U o dy ow s p t ∧ t p = x ∧ v = pp_SU n W o dy ow pr s p t
/-- what s and its customers cost at a time of s -/
def pp_bl : Int := ow s x + pp_sm (fun k => if pp_k2 W s p k = true then c k x else 0) n.toNat
def pp_ys (y : Int → Int) : Int := pp_sm (fun k => if pp_k1 W s p k = true then c k (y k) else 0) n.toNat
def pp_yg (y : Int → Int) : Int := pp_gx (o s) (pp_k1 W s p) y n.toNat
def pp_yk (y : Int → Int) : Prop := ∀ k, pp_k1 W s p k = true → 0 ≤ y k ∧ y k ≤ U k
def pp_lO : Prop := ∃ y : Int → Int, pp_yk W U s p y ∧ 0 ≤ pp_yg n W o s p y + dy s - x ∧ v = pp_bl n W ow c s p x + pr s (pp_yg n W o s p y + dy s - x) + pp_ys n W c s p y
def pp_lS : Prop := ∃ (y : Int → Int) (t : Int), pp_yk W U s p y ∧ 0 ≤ t ∧ t ≤ U s ∧ 0 ≤ max x (pp_yg n W o s p y) + dy s - t ∧ v = pp_bl n W ow c s p t + pr s (max x (pp_yg n W o s p y) + dy s - t) + pp_ys n W c s p y
end
theorem pp_sm_mono {g h : Int → Int} : ∀ (k : Nat), (∀ i : Int, 0 ≤ i → i < k → g i ≤ h i) → pp_sm g k ≤ pp_sm h k
  | 0, _ => Int.le_refl 0
  | k + 1, e => by
    have i1 := pp_sm_mono k (fun i h1 h2 => e i h1 (by omega))
    have i2 := e k (by omega) (by omega)
    show pp_sm g k + g k ≤ pp_sm h k + h k
    omega
/-- each of them is no more than all -/
theorem pp_sm_ge {g : Int → Int} {j : Int} : ∀ (k : Nat), (∀ i : Int, 0 ≤ i → i < k → 0 ≤ g i) → 0 ≤ j → j < k → g j ≤ pp_sm g k
  | 0, _, h1, h2 => by omega
  | k + 1, e, h1, h2 => by
    show g j ≤ pp_sm g k + g k
    by_cases c : j = k
    · have := pp_sm_nn k (fun i h1 h2 => e i h1 (by omega))
      subst c
      omega
    · have := pp_sm_ge k (fun i h1 h2 => e i h1 (by omega)) h1 (by omega)
      have := e k (by omega) (by omega)
      omega
/-- one more -/
theorem pp_gx_p {b : Int} {q r : Int → Bool} {g h : Int → Int} {k : Nat} {p : Int} (p1 : 0 ≤ p) (p2 : p < k) (hp : q p = true) (hr : ∀ i : Int, 0 ≤ i → i < k → i ≠ p → q i = r i ∧ (r i = true → g i = h i)) (hq : r p = false) : pp_gx b q g k = max (g p) (pp_gx b r h k) := by
  apply Int.le_antisymm
  · apply pp_gx_le
    · have := pp_gx_ge b r h k
      omega
    · intro i i1 i2 i3
      by_cases c : i = p
      · subst c; omega
      · have e := hr i i1 i2 c
        rw [e.1] at i3
        have := pp_gx_of (b := b) (g := h) k i i1 i2 i3
        rw [e.2 i3]
        omega
  · have a1 := pp_gx_of (b := b) (g := g) k p p1 p2 hp
    have a2 : pp_gx b r h k ≤ pp_gx b q g k := by
      apply pp_gx_le
      · exact pp_gx_ge b q g k
      · intro i i1 i2 i3
        have c : i ≠ p := fun z => by rw [z, hq] at i3; cases i3
        have e := hr i i1 i2 c
        rw [← e.2 i3]
        exact pp_gx_of k i i1 i2 (e.1.trans i3)
    omega
section
variable {n F : Int} {W : pp_W} {U o dy : Int → Int} {ow pr c : Int → Int → Int} {s p x : Int}
theorem pp_pw_cg {t t' : Int → Int} {u : Int} (h : ∀ k, W k u = true → t k = t' k) : pp_pw n W o t u = pp_pw n W o t' u := pp_gx_congr _ (fun i _ _ => ⟨rfl, fun e => h i e⟩)
theorem pp_pf_cg {t t' : Int → Int} {u : Int} (h0 : t u = t' u) (h : ∀ k, W k u = true → t k = t' k) (g : pp_pf n F W U o dy ow t' u) : pp_pf n F W U o dy ow t u := by
  unfold pp_pf at g ⊢
  rw [pp_pw_cg h, h0]
  exact g
theorem pp_pv_cg {t t' : Int → Int} {u : Int} (h0 : t u = t' u) (h : ∀ k, W k u = true → t k = t' k) : pp_pv n W o dy ow pr t u = pp_pv n W o dy ow pr t' u := by
  unfold pp_pv
  rw [pp_pw_cg h, h0]
/-- plans of the neighbours' sides put together -/
noncomputable def pp_gl (W : pp_W) (s p : Int) (tk : Int → Int → Int) (x xp : Int) : Int → Int := fun u => @dite _ (∃ k, pp_nb W k s ∧ k ≠ p ∧ pp_sd W k s u) (Classical.propDecidable _) (fun h => tk (Classical.choose h) u) (fun _ => if u = s then x else xp)
theorem pp_gl_k (hF : pp_FO W) {tk : Int → Int → Int} {xp k u : Int} (h1 : pp_nb W k s) (h2 : k ≠ p) (h3 : pp_sd W k s u) : pp_gl W s p tk x xp u = tk k u := by
  have h : ∃ k, pp_nb W k s ∧ k ≠ p ∧ pp_sd W k s u := ⟨k, h1, h2, h3⟩
  unfold pp_gl
  rw [dif_pos h]
  have e := Classical.choose_spec h
  rw [pp_sd_two hF e.1 h1 e.2.2 h3]
theorem pp_gl_s (hF : pp_FO W) {tk : Int → Int → Int} {xp : Int} : pp_gl W s p tk x xp s = x := by
  unfold pp_gl
  rw [dif_neg (fun ⟨k, h1, _, h3⟩ => pp_sd_no hF h1 h3), if_pos rfl]
theorem pp_gl_p (hF : pp_FO W) {tk : Int → Int → Int} {xp : Int} (hp : pp_nb W s p) : pp_gl W s p tk x xp p = xp := by
  unfold pp_gl
  rw [dif_neg (fun ⟨k, h1, h2, h3⟩ => pp_sd_no hF hp (pp_sd_in hF h1 h2 h3)), if_neg (fun z => by
    subst z
    rcases hp with h | h <;> exact absurd (pp_cn_rf _ _) (hF _ _ h))]
theorem pp_gl_all (hW : pp_IN n W) (hF : pp_FO W) (hR : pp_RK W) (h1 : 0 ≤ s) (h2 : s < n) {tk : Int → Int → Int} {xp : Int} (hk1 : ∀ k, pp_k1 W s p k = true → pp_FE n F W U o dy ow k s (tk k)) (hk2 : ∀ k, pp_k2 W s p k = true → pp_FE n F W U o dy ow k s (tk k) ∧ tk k s = x) :
    (∀ k u, pp_nb W k s → k ≠ p → pp_sd W k s u → pp_pf n F W U o dy ow (pp_gl W s p tk x xp) u ∧ pp_pv n W o dy ow pr (pp_gl W s p tk x xp) u = pp_pv n W o dy ow pr (tk k) u)
    ∧ pp_SU n W o dy ow pr s p (pp_gl W s p tk x xp) = pp_pv n W o dy ow pr (pp_gl W s p tk x xp) s + pp_sm (fun k => if pp_k1 W s p k = true then pp_SU n W o dy ow pr k s (tk k) else 0) n.toNat + pp_sm (fun k => if pp_k2 W s p k = true then pp_SU n W o dy ow pr k s (tk k) else 0) n.toNat := by
  have a : ∀ k u, pp_nb W k s → k ≠ p → pp_sd W k s u → pp_pf n F W U o dy ow (pp_gl W s p tk x xp) u ∧ pp_pv n W o dy ow pr (pp_gl W s p tk x xp) u = pp_pv n W o dy ow pr (tk k) u := by
    intro k u hk hp hu
    have e0 : pp_gl W s p tk x xp u = tk k u := pp_gl_k hF hk hp hu
    have fe : pp_FE n F W U o dy ow k s (tk k) := by
      rcases hk with hk | hk
      · exact hk1 k (pp_k1_t.mpr ⟨hk, hp⟩)
      · exact (hk2 k (pp_k2_t.mpr ⟨hk, hp⟩)).1
    have e1 : ∀ j, W j u = true → pp_gl W s p tk x xp j = tk k j := by
      intro j hj
      rcases pp_sd_nx hF hk hu (Or.inr hj) with g | ⟨g1, g2⟩
      · exact pp_gl_k hF hk hp g
      · subst g1
        subst g2
        rw [pp_gl_s hF, (hk2 u (pp_k2_t.mpr ⟨hj, hp⟩)).2]
    exact ⟨pp_pf_cg e0 e1 (fe u hu), pp_pv_cg e0 e1⟩
  refine ⟨a, ?_⟩
  unfold pp_SU
  rw [pp_sb_sum hW hF hR h1 h2]
  have z : ∀ k, pp_nb W k s → k ≠ p → pp_sm (fun u => if pp_sb W k s u = true then pp_pv n W o dy ow pr (pp_gl W s p tk x xp) u else 0) n.toNat = pp_sm (fun u => if pp_sb W k s u = true then pp_pv n W o dy ow pr (tk k) u else 0) n.toNat := by
    intro k hk hp
    apply pp_sm_congr
    intro u _ _
    show (if pp_sb W k s u = true then _ else (0 : Int)) = if pp_sb W k s u = true then _ else 0
    by_cases q : pp_sb W k s u = true
    · rw [if_pos q, if_pos q, (a k u hk hp (pp_sb_t.mp q)).2]
    · rw [if_neg q, if_neg q]
  congr 1
  · congr 1
    apply pp_sm_congr
    intro k _ _
    show (if pp_k1 W s p k = true then _ else (0 : Int)) = if pp_k1 W s p k = true then _ else 0
    by_cases q : pp_k1 W s p k = true
    · rw [if_pos q, if_pos q, z k (Or.inl (pp_k1_t.mp q).1) (pp_k1_t.mp q).2]
    · rw [if_neg q, if_neg q]
  · apply pp_sm_congr
    intro k _ _
    show (if pp_k2 W s p k = true then _ else (0 : Int)) = if pp_k2 W s p k = true then _ else 0
    by_cases q : pp_k2 W s p k = true
    · rw [if_pos q, if_pos q, z k (Or.inr (pp_k2_t.mp q).1) (pp_k2_t.mp q).2]
    · rw [if_neg q, if_neg q]
/-- what is asked of the cells -/
def pp_cz (n F : Int) (W : pp_W) (U o dy : Int → Int) (ow pr c : Int → Int → Int) (s p : Int) : Prop := (∀ k, pp_k1 W s p k = true → ∀ y, 0 ≤ y → y ≤ U k → 0 ≤ c k y ∧ pp_mi F (pp_CO n F W U o dy ow pr k s y) (c k y)) ∧ (∀ k, pp_k2 W s p k = true → ∀ y, 0 ≤ y → y ≤ U s → 0 ≤ c k y ∧ pp_mi F (pp_CS n F W U o dy ow pr k s y) (c k y))
theorem pp_k1_r (hW : pp_IN n W) {k : Int} (h : pp_k1 W s p k = true) : 0 ≤ k ∧ k < n := by
  have := hW _ _ (pp_k1_t.mp h).1
  omega
theorem pp_k2_r (hW : pp_IN n W) {k : Int} (h : pp_k2 W s p k = true) : 0 ≤ k ∧ k < n := by
  have := hW _ _ (pp_k2_t.mp h).1
  omega
/-- each plan costs no less than the cells say -/
theorem pp_dp_ge (hW : pp_IN n W) (hF : pp_FO W) (hR : pp_RK W) (h1 : 0 ≤ s) (h2 : s < n) (hc : pp_cz n F W U o dy ow pr c s p) {t : Int → Int} (ht : pp_FE n F W U o dy ow s p t) :
    pp_yk W U s p t ∧ 0 ≤ t s ∧ t s ≤ U s ∧ 0 ≤ pp_pw n W o t s + dy s - t s ∧ pp_bl n W ow c s p (t s) + pr s (pp_pw n W o t s + dy s - t s) + pp_ys n W c s p t ≤ pp_SU n W o dy ow pr s p t := by
  have fs := ht s (pp_sd_rf W s p)
  have sub : ∀ k, pp_nb W k s → k ≠ p → pp_FE n F W U o dy ow k s t := fun k k1 k2 u hu => ht u (pp_sd_in hF k1 k2 hu)
  have yk : pp_yk W U s p t := fun k hk => by
    have := ht k (pp_sd_in hF (Or.inl (pp_k1_t.mp hk).1) (pp_k1_t.mp hk).2 (pp_sd_rf W k s))
    exact ⟨this.1, this.2.1⟩
  refine ⟨yk, fs.1, fs.2.1, fs.2.2.1, ?_⟩
  unfold pp_SU
  rw [pp_sb_sum hW hF hR h1 h2]
  have a1 : pp_ys n W c s p t ≤ pp_sm (fun k => if pp_k1 W s p k = true then pp_sm (fun u => if pp_sb W k s u = true then pp_pv n W o dy ow pr t u else 0) n.toNat else 0) n.toNat := by
    apply pp_sm_mono
    intro k _ _
    show (if pp_k1 W s p k = true then _ else (0 : Int)) ≤ if pp_k1 W s p k = true then _ else 0
    by_cases q : pp_k1 W s p k = true
    · rw [if_pos q, if_pos q]
      exact (hc.1 k q (t k) (yk k q).1 (yk k q).2).2.2.1 _ ⟨t, sub k (Or.inl (pp_k1_t.mp q).1) (pp_k1_t.mp q).2, rfl, rfl⟩
    · rw [if_neg q, if_neg q]
      exact Int.le_refl 0
  have a2 : pp_sm (fun k => if pp_k2 W s p k = true then c k (t s) else 0) n.toNat ≤ pp_sm (fun k => if pp_k2 W s p k = true then pp_sm (fun u => if pp_sb W k s u = true then pp_pv n W o dy ow pr t u else 0) n.toNat else 0) n.toNat := by
    apply pp_sm_mono
    intro k _ _
    show (if pp_k2 W s p k = true then _ else (0 : Int)) ≤ if pp_k2 W s p k = true then _ else 0
    by_cases q : pp_k2 W s p k = true
    · rw [if_pos q, if_pos q]
      exact (hc.2 k q (t s) fs.1 fs.2.1).2.2.1 _ ⟨t, sub k (Or.inr (pp_k2_t.mp q).1) (pp_k2_t.mp q).2, rfl, rfl⟩
    · rw [if_neg q, if_neg q]
      exact Int.le_refl 0
  unfold pp_bl
  show ow s (t s) + _ + pr s (pp_pw n W o t s + dy s - t s) + pp_ys n W c s p t ≤ ow s (t s) + pr s (pp_pw n W o t s + dy s - t s) + _ + _
  omega
/-- and what they say there is a plan for -/
theorem pp_dp_at (hW : pp_IN n W) (hF : pp_FO W) (hR : pp_RK W) (h1 : 0 ≤ s) (h2 : s < n) (hc : pp_cz n F W U o dy ow pr c s p) {y : Int → Int} {x xp q : Int} (hy : pp_yk W U s p y) (x1 : 0 ≤ x) (x2 : x ≤ U s) (q0 : 0 ≤ q) (how : 0 ≤ ow s x) (hlt : pp_bl n W ow c s p x + q + pp_ys n W c s p y < F) :
    ∃ t : Int → Int, t s = x ∧ (pp_nb W s p → t p = xp) ∧ (∀ k, pp_k1 W s p k = true → t k = y k) ∧ ow s x < F ∧ (∀ u, pp_sd W s p u → u ≠ s → pp_pf n F W U o dy ow t u) ∧ pp_SU n W o dy ow pr s p t = pp_pv n W o dy ow pr t s - ow s x + pp_bl n W ow c s p x + pp_ys n W c s p y := by
  have n1 : ∀ k : Int, 0 ≤ (if pp_k1 W s p k = true then c k (y k) else 0) := fun k => by
    by_cases z : pp_k1 W s p k = true
    · rw [if_pos z]; exact (hc.1 k z (y k) (hy k z).1 (hy k z).2).1
    · rw [if_neg z]; exact Int.le_refl 0
  have n2 : ∀ k : Int, 0 ≤ (if pp_k2 W s p k = true then c k x else 0) := fun k => by
    by_cases z : pp_k2 W s p k = true
    · rw [if_pos z]; exact (hc.2 k z x x1 x2).1
    · rw [if_neg z]; exact Int.le_refl 0
  have s1 : 0 ≤ pp_ys n W c s p y := pp_sm_nn _ (fun k _ _ => n1 k)
  have s2 : 0 ≤ pp_sm (fun k => if pp_k2 W s p k = true then c k x else 0) n.toNat := pp_sm_nn _ (fun k _ _ => n2 k)
  have eb : pp_bl n W ow c s p x = ow s x + pp_sm (fun k => if pp_k2 W s p k = true then c k x else 0) n.toNat := rfl
  have l1 : ∀ k, pp_k1 W s p k = true → c k (y k) < F := fun k z => by
    have := pp_k1_r hW z
    have g : (if pp_k1 W s p k = true then c k (y k) else 0) ≤ pp_ys n W c s p y := pp_sm_ge (g := fun k => if pp_k1 W s p k = true then c k (y k) else 0) n.toNat (fun k _ _ => n1 k) this.1 (by omega)
    rw [if_pos z] at g
    omega
  have l2 : ∀ k, pp_k2 W s p k = true → c k x < F := fun k z => by
    have := pp_k2_r hW z
    have g : (if pp_k2 W s p k = true then c k x else 0) ≤ pp_sm (fun k => if pp_k2 W s p k = true then c k x else 0) n.toNat := pp_sm_ge (g := fun k => if pp_k2 W s p k = true then c k x else 0) n.toNat (fun k _ _ => n2 k) this.1 (by omega)
    rw [if_pos z] at g
    omega
  have ex : ∀ k, ∃ t : Int → Int, (pp_k1 W s p k = true → pp_FE n F W U o dy ow k s t ∧ t k = y k ∧ c k (y k) = pp_SU n W o dy ow pr k s t) ∧ (pp_k2 W s p k = true → pp_FE n F W U o dy ow k s t ∧ t s = x ∧ c k x = pp_SU n W o dy ow pr k s t) := by
    intro k
    by_cases z1 : pp_k1 W s p k = true
    · rcases (hc.1 k z1 (y k) (hy k z1).1 (hy k z1).2).2.2.2 with g | ⟨t, g1, g2, g3⟩
      · have := l1 k z1; omega
      · exact ⟨t, fun _ => ⟨g1, g2, g3⟩, fun z2 => by
          have := pp_no2 hR (pp_k2_t.mp z2).1
          rw [(pp_k1_t.mp z1).1] at this
          cases this⟩
    · by_cases z2 : pp_k2 W s p k = true
      · rcases (hc.2 k z2 x x1 x2).2.2.2 with g | ⟨t, g1, g2, g3⟩
        · have := l2 k z2; omega
        · exact ⟨t, fun z => absurd z z1, fun _ => ⟨g1, g2, g3⟩⟩
      · exact ⟨fun _ => 0, fun z => absurd z z1, fun z => absurd z z2⟩
  obtain ⟨tk, htk⟩ := Classical.axiomOfChoice ex
  have ga := pp_gl_all (F := F) (U := U) (o := o) (dy := dy) (ow := ow) (pr := pr) (x := x) (xp := xp) hW hF hR h1 h2 (tk := tk) (fun k z => ((htk k).1 z).1) (fun k z => ⟨((htk k).2 z).1, ((htk k).2 z).2.1⟩)
  refine ⟨pp_gl W s p tk x xp, pp_gl_s hF, fun hp => pp_gl_p hF hp, fun k z => ?_, by omega, ?_, ?_⟩
  · rw [pp_gl_k hF (Or.inl (pp_k1_t.mp z).1) (pp_k1_t.mp z).2 (pp_sd_rf W k s), ((htk k).1 z).2.1]
  · intro u hu hs
    rcases pp_sd_or hu with e | ⟨k, k1, k2, k3⟩
    · exact absurd e hs
    · exact (ga.1 k u k1 k2 k3).1
  · rw [ga.2]
    have e1 : pp_sm (fun k => if pp_k1 W s p k = true then pp_SU n W o dy ow pr k s (tk k) else 0) n.toNat = pp_ys n W c s p y := by
      apply pp_sm_congr
      intro k _ _
      show (if pp_k1 W s p k = true then _ else (0 : Int)) = if pp_k1 W s p k = true then _ else 0
      by_cases z : pp_k1 W s p k = true
      · rw [if_pos z, if_pos z, ← ((htk k).1 z).2.2]
      · rw [if_neg z, if_neg z]
    have e2 : pp_sm (fun k => if pp_k2 W s p k = true then pp_SU n W o dy ow pr k s (tk k) else 0) n.toNat = pp_sm (fun k => if pp_k2 W s p k = true then c k x else 0) n.toNat := by
      apply pp_sm_congr
      intro k _ _
      show (if pp_k2 W s p k = true then _ else (0 : Int)) = if pp_k2 W s p k = true then _ else 0
      by_cases z : pp_k2 W s p k = true
      · rw [if_pos z, if_pos z, ← ((htk k).2 z).2.2]
      · rw [if_neg z, if_neg z]
    rw [e1, e2, eb]
    omega
/-- by the own times -/
theorem pp_dpO (hW : pp_IN n W) (hF : pp_FO W) (hR : pp_RK W) (h1 : 0 ≤ s) (h2 : s < n) (hp : W p s = false) (hc : pp_cz n F W U o dy ow pr c s p) (how : 0 ≤ ow s x) (hpr : ∀ z, 0 ≤ pr s z) (x1 : 0 ≤ x) (x2 : x ≤ U s) {v : Int} (h : pp_mi F (pp_lO n W U o dy ow pr c s p x) v) : pp_mi F (pp_CO n F W U o dy ow pr s p x) v := by
  have ek : ∀ k, pp_k1 W s p k = W k s := fun k => by
    unfold pp_k1
    by_cases e : k = p
    · subst e; rw [hp]; rfl
    · rw [decide_eq_false e, Bool.not_false, Bool.and_true]
  have ew : ∀ t y : Int → Int, (∀ k, pp_k1 W s p k = true → t k = y k) → pp_pw n W o t s = pp_yg n W o s p y := fun t y e => pp_gx_congr _ (fun i _ _ => ⟨(ek i).symm, fun z => e i ((ek i).trans z)⟩)
  refine pp_mi_to h ?_ ?_
  · rintro _ ⟨t, t1, t2, rfl⟩
    have g := pp_dp_ge hW hF hR h1 h2 hc t1
    rw [t2, ew t t (fun _ _ => rfl)] at g
    exact ⟨_, ⟨t, g.1, g.2.2.2.1, rfl⟩, g.2.2.2.2⟩
  · rintro hv ⟨y, y1, y2, y3⟩
    obtain ⟨t, t1, _, t3, t4, t5, t6⟩ := pp_dp_at (xp := 0) hW hF hR h1 h2 hc y1 x1 x2 (hpr (pp_yg n W o s p y + dy s - x)) how (by rw [← y3]; exact hv)
    have e := ew t y t3
    refine ⟨t, ?_, t1, ?_⟩
    · intro u hu
      by_cases us : u = s
      · subst us
        refine ⟨by omega, by omega, ?_, by rw [t1]; exact t4⟩
        rw [e, t1]
        exact y2
      · exact t5 u hu us
    · rw [t6, y3]
      unfold pp_pv
      rw [e, t1]
      omega
/-- by the times of the one who supplies it -/
theorem pp_dpS (hW : pp_IN n W) (hF : pp_FO W) (hR : pp_RK W) (h1 : 0 ≤ s) (h2 : s < n) (hp : W p s = true) (hc : pp_cz n F W U o dy ow pr c s p) (how : ∀ x, 0 ≤ x → x ≤ U s → 0 ≤ ow s x) (hpr : ∀ z, 0 ≤ pr s z) {v : Int} (h : pp_mi F (pp_lS n W U o dy ow pr c s p x) v) : pp_mi F (pp_CS n F W U o dy ow pr s p x) v := by
  have rp := hW _ _ hp
  have kp : pp_k1 W s p p = false := by
    unfold pp_k1
    rw [decide_eq_true rfl, Bool.not_true, Bool.and_false]
  have ek : ∀ k, k ≠ p → pp_k1 W s p k = W k s := fun k e => by
    unfold pp_k1
    rw [decide_eq_false e, Bool.not_false, Bool.and_true]
  have ew : ∀ t y : Int → Int, (∀ k, pp_k1 W s p k = true → t k = y k) → pp_pw n W o t s = max (t p) (pp_yg n W o s p y) := fun t y e => pp_gx_p (p := p) (by omega) (by omega) hp (fun i _ _ z => ⟨(ek i z).symm, fun q => e i q⟩) kp
  refine pp_mi_to h ?_ ?_
  · rintro _ ⟨t, t1, t2, rfl⟩
    have g := pp_dp_ge hW hF hR h1 h2 hc t1
    rw [ew t t (fun _ _ => rfl), t2] at g
    exact ⟨_, ⟨t, t s, g.1, g.2.1, g.2.2.1, g.2.2.2.1, rfl⟩, g.2.2.2.2⟩
  · rintro hv ⟨y, z, y1, z1, z2, y2, y3⟩
    obtain ⟨t, t1, t2, t3, t4, t5, t6⟩ := pp_dp_at (xp := x) hW hF hR h1 h2 hc y1 z1 z2 (hpr (max x (pp_yg n W o s p y) + dy s - z)) (how z z1 z2) (by rw [← y3]; exact hv)
    have t2 := t2 (Or.inr hp)
    have e := ew t y t3
    rw [t2] at e
    refine ⟨t, ?_, t2, ?_⟩
    · intro u hu
      by_cases us : u = s
      · subst us
        refine ⟨by omega, by omega, ?_, by rw [t1]; exact t4⟩
        rw [e, t1]
        exact y2
      · exact t5 u hu us
    · rw [t6, y3]
      unfold pp_pv
      rw [e, t1]
      omega
end
