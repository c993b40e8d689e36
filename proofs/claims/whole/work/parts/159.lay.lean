/-! THE TIMES OF THE BEST, laid -/
section
variable {E : mm_E} {d B : Nat} {S : mm_S} {c : mm_N} {f wd L τ : Int → Int} {H : Int}
theorem bb_digit {n v : Int} {t : Int → Int} (hb : ∀ u : Int, 0 ≤ u → 0 ≤ bb_dg n t u ∧ bb_dg n t u ≤ 127) (hv : 0 ≤ v ∧ v ≤ 1000000000) (h8 : S.J 40 8 = v * 268435456 + (bb_dg n t 0 * 2097152 + bb_dg n t 1 * 16384 + bb_dg n t 2 * 128 + bb_dg n t 3)) (h9 : S.J 40 9 = bb_dg n t 4 * 562949953421312 + bb_dg n t 5 * 4398046511104 + bb_dg n t 6 * 34359738368 + bb_dg n t 7 * 268435456 + bb_dg n t 8 * 2097152 + bb_dg n t 9 * 16384 + bb_dg n t 10 * 128 + bb_dg n t 11) {u : Int} (u0 : 0 ≤ u) (u1 : u < 12) (hd : 2 ≤ d) : mm_ev E d 6 [.ref (mm_ad B 40), .int (mm_i u)] (mm_hp B S c) = mm_oI (bb_dg n t u) (mm_hp B S c) := by
  have b0 := hb 0 (by omega); have b1 := hb 1 (by omega); have b2 := hb 2 (by omega); have b3 := hb 3 (by omega); have b4 := hb 4 (by omega); have b5 := hb 5 (by omega); have b6 := hb 6 (by omega); have b7 := hb 7 (by omega); have b8 := hb 8 (by omega); have b9 := hb 9 (by omega); have b10 := hb 10 (by omega); have b11 := hb 11 (by omega)
  have sr : ∀ x : Int, 0 ≤ x → x < 9223372036854775808 → mm_j x >>> (Int32.toInt64 (mm_i (bb_sh u)) &&& 63) = mm_j (x / bb_pw u) := fun x x0 x1 => by
    have r := bb_sh_r u0 u1
    have g := bb_shr (t := x) (k := (bb_sh u).toNat) x0 x1 (by omega)
    rw [show (((bb_sh u).toNat : Nat) : Int) = bb_sh u by omega] at g
    exact g
  have pv := bb_pw_val
  have pr := bb_pw_r u0 u1
  refine mm_v6 (by omega) (fun F e hF he => ?_)
  rw [mm_e6_0, mm_br_le (by omega) (by omega) (by omega) (by omega)]
  have fin : ∀ x : Int, 0 ≤ x → x < 9223372036854775808 → (x / bb_pw u) % 128 = bb_dg n t u → Int64.toInt32 ((mm_j x >>> (Int32.toInt64 (mm_i (bb_sh u)) &&& 63)) &&& mm_j 127) = mm_i (bb_dg n t u) := fun x x0 x1 hx => by
    have q0 : 0 ≤ x / bb_pw u := Int.ediv_nonneg x0 (by omega)
    have q1 : x / bb_pw u ≤ x := Int.ediv_le_self _ x0
    rw [sr x x0 x1, bb_127 q0 (by omega), mm_l2i (by omega) (by omega), hx]
  by_cases q : 4 ≤ u
  · rw [if_pos q]
    simp (disch := omega) only [mm_ptB]
    rw [c_shiftOf (by omega) u0 u1, mm_cI_ok, fin _ (by omega) (by omega) ?_]
    rw [h9]
    rcases (by omega : u = 4 ∨ u = 5 ∨ u = 6 ∨ u = 7 ∨ u = 8 ∨ u = 9 ∨ u = 10 ∨ u = 11) with z | z | z | z | z | z | z | z
    · subst z; rw [pv.2.2.2.2.1]; omega
    · subst z; rw [pv.2.2.2.2.2.1]; omega
    · subst z; rw [pv.2.2.2.2.2.2.1]; omega
    · subst z; rw [pv.2.2.2.2.2.2.2.1]; omega
    · subst z; rw [pv.2.2.2.2.2.2.2.2.1]; omega
    · subst z; rw [pv.2.2.2.2.2.2.2.2.2.1]; omega
    · subst z; rw [pv.2.2.2.2.2.2.2.2.2.2.1]; omega
    · subst z; rw [pv.2.2.2.2.2.2.2.2.2.2.2]; omega
  · rw [if_neg q]
    simp (disch := omega) only [mm_ptB]
    rw [c_shiftOf (by omega) u0 u1, mm_cI_ok, fin _ (by omega) (by omega) ?_]
    rw [h8]
    rcases (by omega : u = 0 ∨ u = 1 ∨ u = 2 ∨ u = 3) with z | z | z | z
    · subst z; rw [pv.1]; omega
    · subst z; rw [pv.2.1]; omega
    · subst z; rw [pv.2.2.1]; omega
    · subst z; rw [pv.2.2.2.1]; omega
theorem l_takeBest {n v : Int} {t : Int → Int} (hd : 2 ≤ d) (hb : ∀ u : Int, 0 ≤ u → 0 ≤ bb_dg n t u ∧ bb_dg n t u ≤ 127) (hv : 0 ≤ v ∧ v ≤ 1000000000) (h8 : S.J 40 8 = v * 268435456 + (bb_dg n t 0 * 2097152 + bb_dg n t 1 * 16384 + bb_dg n t 2 * 128 + bb_dg n t 3)) (h9 : S.J 40 9 = bb_dg n t 4 * 562949953421312 + bb_dg n t 5 * 4398046511104 + bb_dg n t 6 * 34359738368 + bb_dg n t 7 * 268435456 + bb_dg n t 8 * 2097152 + bb_dg n t 9 * 16384 + bb_dg n t 10 * 128 + bb_dg n t 11) (hn : 0 ≤ S.I 3 10 ∧ S.I 3 10 ≤ 12) : ∀ (j k m : Nat), (S.I 3 10).toNat = k + j → j < m → mm_r142_2 E (mm_ev E d) m (mm_ad B 0) (mm_i (k : Int)) (mm_hp B (S.sA 8 (pp_fl (bb_dg n t) (S.A 8) k)) c) = mm_oV (mm_hp B (S.sA 8 (pp_fl (bb_dg n t) (S.A 8) (S.I 3 10))) c) := by
  have a3 : (3 : Nat) = 3 ∨ (3 : Nat) = 14 ∨ (3 : Nat) = 25 := Or.inl rfl
  have p8 : ∀ (S : mm_S) (κ : Nat → mm_R), mm_gR (mm_hp B S c) (mm_ad B 3) 3 4 κ = κ (mm_ad B 8) := fun S κ => mm_pgR rfl rfl κ
  have w8 : ∀ (S : mm_S) (i v : Int) (κ : mm_H → mm_R), 0 ≤ i → i < 12 → mm_wI (mm_hp B S c) (mm_ad B 8) (mm_i i) (mm_i v) κ = κ (mm_hp B (S.sA 8 (mm_u (S.A 8) i v)) c) := fun S i v κ h1 h2 => mm_pwI rfl (by decide) h1 h2 κ
  have g10 : ∀ (S : mm_S) (κ : Int32 → mm_R), mm_gI (mm_hp B S c) (mm_ad B 3) 3 10 κ = κ (mm_i (S.I 3 10)) := fun S κ => mm_pgI rfl rfl κ
  intro j
  induction j with
  | zero =>
    intro k m hk hm
    obtain ⟨m, rfl⟩ : ∃ q, m = q + 1 := ⟨m - 1, by omega⟩
    rw [mm_e142_2]
    simp (disch := omega) only [mm_ptP, g10, mm_gs, mm_br_le]
    rw [if_pos (by omega), show S.I 3 10 = (k : Int) by omega]
  | succ j ih =>
    intro k m hk hm
    obtain ⟨m, rfl⟩ : ∃ q, m = q + 1 := ⟨m - 1, by omega⟩
    have a := ih (k + 1) m (by omega) (by omega)
    rw [Int.natCast_add, Int.natCast_one] at a
    rw [← a, mm_e142_2]
    simp (disch := omega) only [mm_ptP, g10, mm_gs, mm_br_le]
    rw [if_neg (by omega)]
    simp (disch := omega) only [mm_ptP, p8]
    rw [bb_digit (S := S.sA 8 (pp_fl (bb_dg n t) (S.A 8) k)) hb hv h8 h9 (by omega) (by omega) hd, mm_cI_ok]
    simp (disch := omega) only [w8, mm_gs, mm_hm]
    rw [pp_fl_st (by omega)]
theorem c_takeBest {n v : Int} {t : Int → Int} (hd : 3 ≤ d) (hb : ∀ u : Int, 0 ≤ u → 0 ≤ bb_dg n t u ∧ bb_dg n t u ≤ 127) (hv : 0 ≤ v ∧ v ≤ 1000000000) (h8 : S.J 40 8 = v * 268435456 + (bb_dg n t 0 * 2097152 + bb_dg n t 1 * 16384 + bb_dg n t 2 * 128 + bb_dg n t 3)) (h9 : S.J 40 9 = bb_dg n t 4 * 562949953421312 + bb_dg n t 5 * 4398046511104 + bb_dg n t 6 * 34359738368 + bb_dg n t 7 * 268435456 + bb_dg n t 8 * 2097152 + bb_dg n t 9 * 16384 + bb_dg n t 10 * 128 + bb_dg n t 11) (hn : 0 ≤ S.I 3 10 ∧ S.I 3 10 ≤ 12) : mm_ev E d 142 [.ref (mm_ad B 0)] (mm_hp B S c) = mm_oV (mm_hp B (S.sA 8 (pp_fl (bb_dg n t) (S.A 8) (S.I 3 10))) c) := by
  refine mm_v142 (by omega) (fun F e hF he => ?_)
  have g := l_takeBest (E := E) (d := e) (B := B) (S := S) (c := c) (by omega) hb hv h8 h9 hn (S.I 3 10).toNat 0 (F + 99) (by omega) (by omega)
  rw [show ((0 : Nat) : Int) = 0 from rfl, pp_fl_0, pp_sA_id] at g
  rw [mm_e142_0]
  exact g
/-- pins of the first s are as told -/
def bb_pn (f τ : Int → Int) (s : Int) : Int → Int := fun i => if 9 ≤ i ∧ i % 7 = 2 ∧ i < 3 + 7 * s then τ ((i - 9) / 7) else f i
theorem bb_pn_0 (f τ : Int → Int) : bb_pn f τ 0 = f := by
  funext i
  unfold bb_pn
  rw [if_neg (by omega)]
theorem bb_pn_st {s : Int} (s0 : 0 ≤ s) : mm_u (bb_pn f τ s) (3 + 7 * s + 6) (τ s) = bb_pn f τ (s + 1) := by
  funext i
  unfold mm_u bb_pn
  by_cases e : i = 3 + 7 * s + 6
  · rw [if_pos e, if_pos (by omega), show (i - 9) / 7 = s by omega]
  · rw [if_neg e]
    by_cases q : 9 ≤ i ∧ i % 7 = 2 ∧ i < 3 + 7 * s
    · rw [if_pos q, if_pos (by omega)]
    · rw [if_neg q, if_neg (by omega)]
theorem bb_pn_pin {s u : Int} (u0 : 0 ≤ u) (u1 : u < s) : bb_pn f τ s (3 + 7 * u + 6) = τ u := by
  unfold bb_pn
  rw [if_pos (by omega), show (3 + 7 * u + 6 - 9) / 7 = u by omega]
theorem bb_pn_out {s i : Int} (h : ¬ (9 ≤ i ∧ i % 7 = 2 ∧ i < 3 + 7 * s)) : bb_pn f τ s i = f i := by
  unfold bb_pn
  rw [if_neg h]
/-- rows that differ in pins alone -/
def bb_sp (f g : Int → Int) : Prop := ∀ i : Int, ¬ (9 ≤ i ∧ i % 7 = 2 ∧ i < 3 + 7 * f 0) → g i = f i
theorem bb_sp_e {f g : Int → Int} (hR : pp_RO f) (h : bb_sp f g) : g 0 = f 0 ∧ g 1 = f 1 ∧ g 2 = f 2 ∧ (∀ l : Int, 0 ≤ l → g (159 + 2 * l) = f (159 + 2 * l) ∧ g (159 + 2 * l + 1) = f (159 + 2 * l + 1)) ∧ (∀ u w : Int, 0 ≤ u → 0 ≤ w → w < 6 → g (3 + 7 * u + w) = f (3 + 7 * u + w)) := by
  have n12 := hR.1
  exact ⟨h 0 (by omega), h 1 (by omega), h 2 (by omega), fun l l0 => ⟨h _ (by omega), h _ (by omega)⟩, fun u w u0 w0 w1 => h _ (by omega)⟩
theorem bb_sp_W {f g : Int → Int} (hR : pp_RO f) (h : bb_sp f g) : pp_Wr g = pp_Wr f := by
  obtain ⟨e0, e1, e2, e3, e4⟩ := bb_sp_e hR h
  exact pp_Wr_cg e0 e2 (fun l l0 _ => e3 l l0)
theorem bb_sp_RO {f g : Int → Int} (hR : pp_RO f) (h : bb_sp f g) (hp : ∀ u : Int, 0 ≤ u → u < f 0 → -1 ≤ g (3 + 7 * u + 6) ∧ g (3 + 7 * u + 6) ≤ 119) : pp_RO g := by
  obtain ⟨e0, e1, e2, e3, e4⟩ := bb_sp_e hR h
  refine pp_RO_same hR e0 (by rw [e1]; exact hR.2.1) e2 (fun l l0 _ => e3 l l0) (fun s s0 s1 => ?_)
  have r := bb_ro hR s0 s1
  have p := hp s s0 s1
  unfold pp_tR
  have e : ∀ w : Int, 3 + (s * 7 + w) = 3 + 7 * s + w := fun w => by omega
  simp only [e]
  rw [e4 s 0 s0 (by omega) (by omega), e4 s 1 s0 (by omega) (by omega), e4 s 2 s0 (by omega) (by omega), e4 s 3 s0 (by omega) (by omega), e4 s 4 s0 (by omega) (by omega), e4 s 5 s0 (by omega) (by omega)]
  exact ⟨r.1, r.2.1, r.2.2.1, r.2.2.2.1, r.2.2.2.2.1, r.2.2.2.2.2.1, p⟩
theorem bb_sp_RS {f g : Int → Int} (hR : pp_RO f) (h : bb_sp f g) (hS : bb_RS f wd L) : bb_RS g wd L := by
  obtain ⟨e0, e1, e2, e3, e4⟩ := bb_sp_e hR h
  obtain ⟨s1, s2, s3, s4⟩ := hS
  unfold bb_RS
  rw [bb_sp_W hR h, e0]
  refine ⟨fun s s0 sn => ?_, fun s s0 sn => ?_, s3, s4⟩
  · have g := s1 s s0 sn
    dsimp only at g ⊢
    rw [e4 s 4 s0 (by omega) (by omega)]; exact g
  · rw [e4 s 2 s0 (by omega) (by omega), e4 s 0 s0 (by omega) (by omega)]; exact s2 s s0 sn
theorem bb_sp_pw {f g : Int → Int} (hR : pp_RO f) (h : bb_sp f g) {t : Int → Int} {u : Int} (u0 : 0 ≤ u) : pp_pw (g 0) (pp_Wr g) (fun u => g (3 + 7 * u + 2)) t u = pp_pw (f 0) (pp_Wr f) (fun u => f (3 + 7 * u + 2)) t u := by
  obtain ⟨e0, e1, e2, e3, e4⟩ := bb_sp_e hR h
  unfold pp_pw
  dsimp only
  rw [bb_sp_W hR h, e0, e4 u 2 u0 (by omega) (by omega)]
theorem bb_sp_P {f g : Int → Int} (hR : pp_RO f) (h : bb_sp f g) (t : Int → Int) : bb_P g wd t = bb_P f wd t := by
  obtain ⟨e0, e1, e2, e3, e4⟩ := bb_sp_e hR h
  unfold bb_P
  rw [e0]
  apply pp_sm_congr
  intro u u0 u1
  have p := bb_sp_pw hR h (t := t) u0
  rw [e0] at p
  unfold bb_mp
  rw [p, e4 u 0 u0 (by omega) (by omega), e4 u 1 u0 (by omega) (by omega), e1]
theorem bb_sp_MC {f g : Int → Int} {T : mm_S} (hM : bb_MC S f wd H) (h : bb_sp f g) (hG : pp_RO g) (e1 : T.A 102 = g) (e2 : T.I 101 15 = S.I 101 15) (e3 : T.A 114 = S.A 114) : bb_MC T g wd H := by
  obtain ⟨f0, f1, f2, f3, f4⟩ := bb_sp_e hM.2.1 h
  obtain ⟨m1, m2, m3, m4, m5, m6⟩ := hM
  refine ⟨e1, hG, by rw [e2]; exact m3, m4, fun u u0 u1 => ?_, fun u z u0 u1 z0 z1 => ?_⟩
  · rw [f4 u 2 u0 (by omega) (by omega)]
    exact m5 u u0 (by rw [f0] at u1; exact u1)
  · rw [e3, f1]
    exact m6 u z u0 (by rw [f0] at u1; exact u1) z0 z1
/-- plans of a row with more pins -/
theorem bb_hl_t {g : Int → Int} {u t : Int} : bb_hl (fun k => g (3 + k)) u t = true ↔ (g (3 + 7 * u + 6) = -1 ∨ t = g (3 + 7 * u + 6)) ∧ (g (3 + 7 * u + 5) = -1 ∨ t ≤ g (3 + 7 * u + 5)) := by
  unfold bb_hl
  rw [decide_eq_true_iff]
  simp only [show 3 + (u * 7 + 6) = 3 + 7 * u + 6 by omega, show 3 + (u * 7 + 5) = 3 + 7 * u + 5 by omega]
theorem bb_sp_F {f g : Int → Int} (hR : pp_RO f) (h : bb_sp f g) {t : Int → Int} (hg : ∀ u : Int, 0 ≤ u → u < f 0 → (g (3 + 7 * u + 6) = -1 ∨ t u = g (3 + 7 * u + 6)) → (f (3 + 7 * u + 6) = -1 ∨ t u = f (3 + 7 * u + 6))) (ht : bb_F g t) : bb_F f t := by
  obtain ⟨e0, e1, e2, e3, e4⟩ := bb_sp_e hR h
  intro u u0 u1
  have p := ht u u0 (by rw [e0]; exact u1)
  rw [bb_sp_pw hR h u0, e4 u 0 u0 (by omega) (by omega)] at p
  have q := bb_hl_t.mp p.2.2
  rw [e4 u 5 u0 (by omega) (by omega)] at q
  exact ⟨p.1, p.2.1, bb_hl_t.mpr ⟨hg u u0 u1 q.1, q.2⟩⟩
theorem bb_sp_F' {f g : Int → Int} (hR : pp_RO f) (h : bb_sp f g) {t : Int → Int} (hg : ∀ u : Int, 0 ≤ u → u < f 0 → (g (3 + 7 * u + 6) = -1 ∨ t u = g (3 + 7 * u + 6))) (ht : bb_F f t) : bb_F g t := by
  obtain ⟨e0, e1, e2, e3, e4⟩ := bb_sp_e hR h
  intro u u0 u1
  rw [e0] at u1
  have p := ht u u0 u1
  rw [bb_sp_pw hR h u0, e4 u 0 u0 (by omega) (by omega)]
  have q := bb_hl_t.mp p.2.2
  refine ⟨p.1, p.2.1, bb_hl_t.mpr ⟨hg u u0 u1, ?_⟩⟩
  rw [e4 u 5 u0 (by omega) (by omega)]
  exact q.2
/-- a row whose pins of the first s are those of the best, and x at s -/
theorem bb_try (hR : pp_RO f) (hτ : bb_lx f wd τ) {s x v : Int} (s0 : 0 ≤ s) (s1 : s < f 0) (hx : f (3 + 7 * s + 6) = -1 ∨ x = f (3 + 7 * s + 6)) (hx2 : 0 ≤ x) (hB : bb_isB (mm_u (bb_pn f τ s) (3 + 7 * s + 6) x) wd v) : (x = τ s → v = bb_P f wd τ) ∧ (v = bb_P f wd τ → τ s ≤ x) := by
  have n12 := hR.1
  have hsp : bb_sp f (mm_u (bb_pn f τ s) (3 + 7 * s + 6) x) := fun i hi => by
    rw [mm_u_ne (by omega), bb_pn_out (by omega)]
  have pin : ∀ u : Int, 0 ≤ u → u < f 0 → mm_u (bb_pn f τ s) (3 + 7 * s + 6) x (3 + 7 * u + 6) = if u < s then τ u else if u = s then x else f (3 + 7 * u + 6) := fun u u0 u1 => by
    by_cases z : u = s
    · rw [z, mm_u_eq, if_neg (by omega), if_pos rfl]
    · rw [mm_u_ne (by omega)]
      by_cases y : u < s
      · rw [if_pos y, bb_pn_pin u0 y]
      · rw [if_neg y, if_neg z, bb_pn_out (by omega)]
  have sub : ∀ t, bb_F (mm_u (bb_pn f τ s) (3 + 7 * s + 6) x) t → bb_F f t ∧ (∀ u : Int, 0 ≤ u → u < s → t u = τ u) ∧ t s = x := by
    intro t ht
    have eu : ∀ u : Int, 0 ≤ u → u < s → t u = τ u := fun u u0 u1 => by
      have p := (bb_hl_t.mp (ht u u0 (by rw [hsp 0 (by omega)]; omega)).2.2).1
      rw [pin u u0 (by omega), if_pos u1] at p
      have := (hτ.1 u u0 (by omega)).1
      omega
    have ex : t s = x := by
      have p := (bb_hl_t.mp (ht s s0 (by rw [hsp 0 (by omega)]; omega)).2.2).1
      rw [pin s s0 s1, if_neg (by omega), if_pos rfl] at p
      omega
    refine ⟨bb_sp_F hR hsp (fun u u0 u1 h => ?_) ht, eu, ex⟩
    rw [pin u u0 u1] at h
    by_cases y : u < s
    · have p := (bb_hl_t.mp (hτ.1 u u0 u1).2.2).1
      rw [eu u u0 y]; exact p
    · rw [if_neg y] at h
      by_cases z : u = s
      · rw [z, ex]; exact hx
      · rw [if_neg z] at h; exact h
  constructor
  · intro e
    have ft : bb_F (mm_u (bb_pn f τ s) (3 + 7 * s + 6) x) τ := bb_sp_F' hR hsp (fun u u0 u1 => by
      rw [pin u u0 u1]
      by_cases y : u < s
      · rw [if_pos y]; exact Or.inr rfl
      · rw [if_neg y]
        by_cases z : u = s
        · rw [if_pos z, z]; exact Or.inr e.symm
        · rw [if_neg z]; exact (bb_hl_t.mp (hτ.1 u u0 u1).2.2).1) hτ.1
    refine bb_isB_one hB (Or.inr ⟨τ, ft, (bb_sp_P hR hsp τ).symm, fun t' h' => ?_⟩)
    rw [bb_sp_P hR hsp]
    exact hτ.2.1 t' (sub t' h').1
  · intro e
    rcases hB with ⟨z, z2⟩ | ⟨t, t1, t2, t3⟩
    · -- no plan: then its price is none
      exfalso
      have := hτ.1
      have p0 : 0 ≤ bb_P f wd τ := pp_sm_nn _ (fun u u0 u1 => Int.mul_nonneg (bb_ro hR u0 (by omega)).2.1.1 (pp_rt_nn _))
      omega
    · obtain ⟨g1, g2, g3⟩ := sub t t1
      rw [bb_sp_P hR hsp] at t2
      have := hτ.2.2 s s0 s1 t g1 (by omega) g2
      omega
/-- what the laying leaves as it was -/
def bb_PB (S T : mm_S) : Prop := T.I = S.I ∧ T.J = S.J ∧ T.L = S.L ∧ (∀ x, x ≠ 102 → x ≠ 105 → ¬ (107 ≤ x ∧ x ≤ 113) → x ≠ 115 → T.A x = S.A x)
theorem l_lay1 (hd : 18 ≤ d) (hM : bb_MC S f wd H) (hS : bb_RS f wd L) (hL : ∀ u : Int, 0 ≤ u → u < f 0 → L u ≤ H) (hτ : bb_lx f wd τ) {s : Int} (s0 : 0 ≤ s) (s1 : s < f 0) (hb : bb_P f wd τ < 1000000000) : ∀ (j n : Nat) (x : Int) (T : mm_S), x + j = τ s → 0 ≤ x → j < n → (f (3 + 7 * s + 6) = -1 ∨ x = f (3 + 7 * s + 6)) → bb_PB S T → T.A 102 = mm_u (bb_pn f τ s) (3 + 7 * s + 6) x →
    ∃ (n' : Nat) (V : mm_S) (o3 o4 : Option Value), n ≤ n' + j + 1 ∧ bb_PB S V ∧ V.A 102 = bb_pn f τ (s + 1) ∧ V.A 115 = T.A 115 ∧ V.A 105 = mm_u (T.A 105) s (τ s) ∧ mm_r203_67 E (mm_ev E d) n (mm_ad B 101) (mm_i (bb_P f wd τ)) (mm_i s) (mm_i (3 + 7 * s + 6)) (mm_i x) (mm_hp B T c) = mm_r203_7 E (mm_ev E d) n' (mm_ad B 101) (mm_i (bb_P f wd τ)) (mm_i (s + 1)) o3 o4 (mm_hp B V c) := by
  have hR := hM.2.1
  have n12 := hR.1
  have hH2 := hM.2.2.2.1
  have le := fun u u0 u1 => bb_F_le hS hτ.1 u u0 u1
  have l117 := fun (u : Int) (u0 : 0 ≤ u) (u1 : u < f 0) => (hS.2.2.1 u u0 u1).1.2
  have p0 : 0 ≤ bb_P f wd τ := pp_sm_nn _ (fun u u0 u1 => Int.mul_nonneg (bb_ro hR u0 (by omega)).2.1.1 (pp_rt_nn _))
  have tb : ∀ u : Int, 0 ≤ u → u < f 0 → 0 ≤ τ u ∧ τ u ≤ 117 := fun u u0 u1 => ⟨(hτ.1 u u0 u1).1, by have := le u u0 u1; have := l117 u u0 u1; omega⟩
  have ts := tb s s0 s1
  have one : ∀ (x : Int) (T : mm_S), 0 ≤ x → x ≤ τ s → (f (3 + 7 * s + 6) = -1 ∨ x = f (3 + 7 * s + 6)) → bb_PB S T → T.A 102 = mm_u (bb_pn f τ s) (3 + 7 * s + 6) x → ∃ (V : mm_S) (v : Int), bb_PF T V ∧ (v = bb_P f wd τ ↔ x = τ s) ∧ (-1 ≤ v ∧ v < 1000000000) ∧ mm_ev E d 196 [.ref (mm_ad B 101)] (mm_hp B T c) = mm_oI v (mm_hp B V c) := by
    intro x T x0 x1 hx hT e102
    have hsp : bb_sp f (mm_u (bb_pn f τ s) (3 + 7 * s + 6) x) := fun i hi => by
      rw [mm_u_ne (by omega), bb_pn_out (by omega)]
    have hG : pp_RO (mm_u (bb_pn f τ s) (3 + 7 * s + 6) x) := bb_sp_RO hR hsp (fun u u0 u1 => by
      by_cases z : u = s
      · rw [z, mm_u_eq]; omega
      · rw [mm_u_ne (by omega)]
        by_cases y : u < s
        · rw [bb_pn_pin u0 y]; have := tb u u0 u1; omega
        · rw [bb_pn_out (by omega)]; have := (bb_ro hR u0 u1).2.2.2.2.2.2; omega)
    have hMT : bb_MC T (mm_u (bb_pn f τ s) (3 + 7 * s + 6) x) wd H := bb_sp_MC hM hsp hG e102 (by rw [hT.1]) (hT.2.2.2 114 (by omega) (by omega) (by omega) (by omega))
    obtain ⟨V, v, v1, v2, v3⟩ := m_byRoots (E := E) (d := d) (B := B) (S := T) (c := c) (wd := wd) (H := H) (by omega) hMT
    have eN : mm_u (bb_pn f τ s) (3 + 7 * s + 6) x 0 = f 0 := hsp 0 (by omega)
    have vb : -1 ≤ v ∧ v < 1000000000 := by
      rcases v2 with ⟨z, _⟩ | ⟨z1, z2, _⟩ <;> omega
    have hB := bb_BM_B hMT (bb_sp_RS hR hsp hS) (by rw [eN]; exact hL) v2
    have tr := bb_try hR hτ s0 s1 hx x0 hB
    refine ⟨V, v, v1, ⟨fun z => ?_, tr.1⟩, vb, v3⟩
    have := tr.2 z
    omega
  intro j
  induction j with
  | zero =>
    intro n x T xj x0 hn hx hT e102
    obtain ⟨n, rfl⟩ : ∃ q, n = q + 1 := ⟨n - 1, by omega⟩
    obtain ⟨V, v, v1, v2, v3, v4⟩ := one x T x0 (by omega) hx hT e102
    obtain ⟨tI, tJ, tL, tA⟩ := hT
    obtain ⟨vI, vJ, vL, vA⟩ := v1
    have ev := v2.mpr (by omega)
    refine ⟨n, V.sA 105 (mm_u (V.A 105) s x), some (.int (mm_i (3 + 7 * s + 6))), some (.int (mm_i x)), by omega, ⟨vI.trans tI, vJ.trans tJ, vL.trans tL, fun y y1 y2 y3 y4 => ?_⟩, ?_, ?_, ?_, ?_⟩
    · rw [mm_gA_ne y2, vA y y3]; exact tA y y1 y2 y3 y4
    · rw [mm_gA_ne (by omega), vA 102 (by omega), e102, show x = τ s by omega]; exact bb_pn_st s0
    · rw [mm_gA_ne (by omega), vA 115 (by omega)]
    · simp only [mm_gs]
      rw [vA 105 (by omega), show x = τ s by omega]
    · rw [mm_e203_67, v4, mm_cI_ok, mm_br_eq (by omega) (by omega) (by omega) (by omega), if_pos ev]
      simp (disch := omega) only [mm_ptM, mm_hm]
  | succ j ih =>
    intro n x T xj x0 hn hx hT e102
    obtain ⟨n, rfl⟩ : ∃ q, n = q + 1 := ⟨n - 1, by omega⟩
    obtain ⟨V, v, v1, v2, v3, v4⟩ := one x T x0 (by omega) hx hT e102
    obtain ⟨tI, tJ, tL, tA⟩ := hT
    obtain ⟨vI, vJ, vL, vA⟩ := v1
    have ev : ¬ v = bb_P f wd τ := fun z => by have := v2.mp z; omega
    have fp : f (3 + 7 * s + 6) = -1 := by
      rcases hx with z | z
      · exact z
      · -- a pin: then x is the time already
        have p := (bb_hl_t.mp (hτ.1 s s0 s1).2.2).1
        omega
    have e2 : V.A 102 = mm_u (bb_pn f τ s) (3 + 7 * s + 6) x := by rw [vA 102 (by omega)]; exact e102
    obtain ⟨n', V', o3, o4, a1, a2, a3, a4, a5, a6⟩ := ih n (x + 1) (V.sA 102 (mm_u (V.A 102) (3 + 7 * s + 6) (x + 1))) (by omega) (by omega) (by omega) (Or.inl fp) ⟨vI.trans tI, vJ.trans tJ, vL.trans tL, fun y y1 y2 y3 y4 => by rw [mm_gA_ne y1, vA y y3]; exact tA y y1 y2 y3 y4⟩ (by simp only [mm_gs]; rw [e2, mm_u_u])
    refine ⟨n', V', o3, o4, by omega, a2, a3, ?_, ?_, ?_⟩
    · rw [a4, mm_gA_ne (by omega), vA 115 (by omega)]
    · rw [a5, mm_gA_ne (by omega), vA 105 (by omega)]
    · rw [← a6, mm_e203_67, v4, mm_cI_ok, mm_br_eq (by omega) (by omega) (by omega) (by omega), if_neg ev]
      simp (disch := omega) only [mm_ptM, mm_hm]
theorem l_lay2 (hd : 18 ≤ d) (hM : bb_MC S f wd H) (hS : bb_RS f wd L) (hL : ∀ u : Int, 0 ≤ u → u < f 0 → L u ≤ H) (hτ : bb_lx f wd τ) (hb : bb_P f wd τ < 1000000000) : ∀ (j n : Nat) (s : Int) (T : mm_S) (o3 o4 : Option Value), 0 ≤ s → s + j = f 0 → 130 * j < n → bb_PB S T → T.A 102 = bb_pn f τ s → (∀ u : Int, 0 ≤ u → u < s → T.A 115 u = f (3 + 7 * u + 6)) → T.A 105 = pp_fl τ (S.A 105) s →
    ∃ (n' : Nat) (V : mm_S) (o3' o4' : Option Value), n ≤ n' + 130 * j + 1 ∧ bb_PB S V ∧ V.A 102 = bb_pn f τ (f 0) ∧ (∀ u : Int, 0 ≤ u → u < f 0 → V.A 115 u = f (3 + 7 * u + 6)) ∧ V.A 105 = pp_fl τ (S.A 105) (f 0) ∧ mm_r203_7 E (mm_ev E d) n (mm_ad B 101) (mm_i (bb_P f wd τ)) (mm_i s) o3 o4 (mm_hp B T c) = mm_r203_105 E (mm_ev E d) n' (mm_ad B 101) (mm_i (bb_P f wd τ)) (mm_i 0) o3' o4' (mm_hp B V c) := by
  have hR := hM.2.1
  have n12 := hR.1
  have l117 := fun (u : Int) (u0 : 0 ≤ u) (u1 : u < f 0) => (hS.2.2.1 u u0 u1).1.2
  have tb : ∀ u : Int, 0 ≤ u → u < f 0 → 0 ≤ τ u ∧ τ u ≤ 117 := fun u u0 u1 => ⟨(hτ.1 u u0 u1).1, by have := bb_F_le hS hτ.1 u u0 u1; have := l117 u u0 u1; omega⟩
  intro j
  induction j with
  | zero =>
    intro n s T o3 o4 s0 sj hn hT e102 e115 e105
    obtain ⟨n, rfl⟩ : ∃ q, n = q + 1 := ⟨n - 1, by omega⟩
    have es : s = f 0 := by omega
    have eN : T.A 102 0 = f 0 := by rw [e102, bb_pn_out (by omega)]
    rw [es] at e102 e115 e105
    refine ⟨n, T, o3, o4, by omega, hT, e102, e115, e105, ?_⟩
    rw [mm_e203_7, c_many (by omega), mm_cI_ok, eN, mm_br_le (by omega) (by omega) (by omega) (by omega), if_pos (by omega)]
  | succ j ih =>
    intro n s T o3 o4 s0 sj hn hT e102 e115 e105
    obtain ⟨n, rfl⟩ : ∃ q, n = q + 130 := ⟨n - 130, by omega⟩
    have s1 : s < f 0 := by omega
    have ts := tb s s0 s1
    have eN : T.A 102 0 = f 0 := by rw [e102, bb_pn_out (by omega)]
    have eP : T.A 102 (3 + 7 * s + 6) = f (3 + 7 * s + 6) := by rw [e102, bb_pn_out (by omega)]
    have rp := (bb_ro hR s0 s1).2.2.2.2.2.2
    obtain ⟨tI, tJ, tL, tA⟩ := hT
    -- where the search begins
    have st : ∃ (x : Int), (0 ≤ x ∧ x ≤ τ s) ∧ (f (3 + 7 * s + 6) = -1 ∨ x = f (3 + 7 * s + 6)) ∧ mm_r203_7 E (mm_ev E d) (n + 130) (mm_ad B 101) (mm_i (bb_P f wd τ)) (mm_i s) o3 o4 (mm_hp B T c) = mm_r203_67 E (mm_ev E d) (n + 128) (mm_ad B 101) (mm_i (bb_P f wd τ)) (mm_i s) (mm_i (3 + 7 * s + 6)) (mm_i x) (mm_hp B ((T.sA 102 (mm_u (T.A 102) (3 + 7 * s + 6) x)).sA 115 (mm_u (T.A 115) s (f (3 + 7 * s + 6)))) c) := by
      have go : mm_r203_7 E (mm_ev E d) (n + 130) (mm_ad B 101) (mm_i (bb_P f wd τ)) (mm_i s) o3 o4 (mm_hp B T c) = mm_r203_37 E (mm_ev E d) (n + 129) (mm_ad B 101) (mm_i (bb_P f wd τ)) (mm_i s) (mm_i (3 + 7 * s + 6)) o4 (mm_hp B (T.sA 115 (mm_u (T.A 115) s (f (3 + 7 * s + 6)))) c) := by
        rw [mm_e203_7, c_many (by omega), mm_cI_ok, eN, mm_br_le (by omega) (by omega) (by omega) (by omega), if_neg (by omega)]
        simp (disch := omega) only [mm_ptM, mm_hm]
        rw [eP]
      by_cases q : f (3 + 7 * s + 6) = -1
      · refine ⟨0, by omega, Or.inl q, ?_⟩
        rw [go, mm_e203_37]
        simp (disch := omega) only [mm_ptM, mm_gs, mm_gA_ne, mm_u_eq, mm_br_eq]
        rw [if_pos q]
        simp (disch := omega) only [pp_cm]
      · have p := (bb_hl_t.mp (hτ.1 s s0 s1).2.2).1
        refine ⟨f (3 + 7 * s + 6), by omega, Or.inr rfl, ?_⟩
        rw [go, mm_e203_37]
        simp (disch := omega) only [mm_ptM, mm_gs, mm_gA_ne, mm_u_eq, mm_br_eq]
        rw [if_neg q]
        simp (disch := omega) only [pp_cm]
    obtain ⟨x, x1, x2, x3⟩ := st
    obtain ⟨n', V, p3, p4, a1, a2, a3, a4, a5, a6⟩ := l_lay1 (E := E) (d := d) (B := B) (S := S) (c := c) (f := f) (wd := wd) (L := L) (τ := τ) (H := H) hd hM hS hL hτ s0 s1 hb (τ s - x).toNat (n + 128) x ((T.sA 102 (mm_u (T.A 102) (3 + 7 * s + 6) x)).sA 115 (mm_u (T.A 115) s (f (3 + 7 * s + 6)))) (by omega) x1.1 (by omega) x2 ⟨tI, tJ, tL, fun y y1 y2 y3 y4 => by simp (disch := omega) only [mm_gA_ne]; exact tA y y1 y2 y3 y4⟩ (by simp (disch := omega) only [mm_gs, mm_gA_ne]; rw [e102])
    simp (disch := omega) only [mm_gs, mm_gA_ne] at a4 a5
    obtain ⟨n2, V2, q3, q4, b1, b2, b3, b4, b5, b6⟩ := ih n' (s + 1) V p3 p4 (by omega) (by omega) (by omega) a2 a3 (fun u u0 u1 => by
      rw [a4]
      by_cases z : u = s
      · rw [z, mm_u_eq]
      · rw [mm_u_ne z]; exact e115 u u0 (by omega)) (by rw [a5, e105, pp_fl_st s0])
    exact ⟨n2, V2, q3, q4, by omega, b2, b3, b4, b5, by rw [x3, a6]; exact b6⟩
theorem l_lay3 {x1 : Int32} (hd : 1 ≤ d) (hR : pp_RO f) : ∀ (j n : Nat) (s : Int) (T : mm_S) (o3 o4 : Option Value), 0 ≤ s → s + j = f 0 → j < n → (∀ i : Int, T.A 102 i = if 9 ≤ i ∧ i % 7 = 2 ∧ 3 + 7 * s ≤ i ∧ i < 3 + 7 * f 0 then τ ((i - 9) / 7) else f i) → (∀ u : Int, 0 ≤ u → u < f 0 → T.A 115 u = f (3 + 7 * u + 6)) →
    mm_r203_105 E (mm_ev E d) n (mm_ad B 101) x1 (mm_i s) o3 o4 (mm_hp B T c) = mm_oV (mm_hp B (T.sA 102 f) c) := by
  have n12 := hR.1
  intro j
  induction j with
  | zero =>
    intro n s T o3 o4 s0 sj hn e102 e115
    obtain ⟨n, rfl⟩ : ∃ q, n = q + 1 := ⟨n - 1, by omega⟩
    have eN : T.A 102 0 = f 0 := by rw [e102, if_neg (by omega)]
    have ef : T.A 102 = f := by
      funext i
      rw [e102 i, if_neg (by omega)]
    rw [mm_e203_105, c_many (by omega), mm_cI_ok, eN, mm_br_le (by omega) (by omega) (by omega) (by omega), if_pos (by omega), ← ef, pp_sA_id]
  | succ j ih =>
    intro n s T o3 o4 s0 sj hn e102 e115
    obtain ⟨n, rfl⟩ : ∃ q, n = q + 1 := ⟨n - 1, by omega⟩
    have eN : T.A 102 0 = f 0 := by rw [e102, if_neg (by omega)]
    have e5 := e115 s s0 (by omega)
    have g := ih n (s + 1) (T.sA 102 (mm_u (T.A 102) (3 + 7 * s + 6) (f (3 + 7 * s + 6)))) o3 o4 (by omega) (by omega) (by omega) (fun i => by
      simp only [mm_gs]
      by_cases z : i = 3 + 7 * s + 6
      · rw [z, mm_u_eq, if_neg (by omega)]
      · rw [mm_u_ne z, e102 i]
        by_cases y : 9 ≤ i ∧ i % 7 = 2 ∧ 3 + 7 * s ≤ i ∧ i < 3 + 7 * f 0
        · rw [if_pos y, if_pos (by omega)]
        · rw [if_neg y, if_neg (by omega)]) (fun u u0 u1 => by rw [mm_gA_ne (by omega)]; exact e115 u u0 u1)
    simp only [mm_gs] at g
    rw [← g, mm_e203_105, c_many (by omega), mm_cI_ok, eN, mm_br_le (by omega) (by omega) (by omega) (by omega), if_neg (by omega)]
    simp (disch := omega) only [mm_ptM, mm_hm]
    rw [e5]
/-- the times of the best are laid -/
theorem m_layBest (hd : 20 ≤ d) (eF : S.A 102 = f) (hR : pp_RO f) (hS : bb_RS f wd L) (hτ : bb_lx f wd τ) : ∃ T : mm_S, (∀ x k, ¬ (x = 101 ∧ k = 15) → T.I x k = S.I x k) ∧ T.J = S.J ∧ T.L = S.L ∧ (∀ x, x ≠ 105 → ¬ (107 ≤ x ∧ x ≤ 115) → T.A x = S.A x) ∧ T.A 105 = pp_fl τ (S.A 105) (f 0) ∧ mm_ev E d 203 [.ref (mm_ad B 101)] (mm_hp B S c) = mm_oV (mm_hp B T c) := by
  have n12 := hR.1
  obtain ⟨e, rfl⟩ : ∃ q, d = q + 1 := ⟨d - 1, by omega⟩
  obtain ⟨F, hF, h⟩ := mm_w203 E e B S c
  obtain ⟨T, H, v, a1, a2, a3, a4, a5⟩ := m_priceOfBest (E := E) (d := e) (B := B) (S := S) (c := c) (f := f) (wd := wd) (L := L) (by omega) eF hR hS
  have hB := bb_BM_B a2 hS a3 a4
  have ev : v = bb_P f wd τ := bb_isB_one hB (Or.inr ⟨τ, hτ.1, rfl, hτ.2.1⟩)
  have pb := bb_P_r a2 hS hτ.1
  obtain ⟨tI, tJ, tL, tA⟩ := a1
  obtain ⟨n', V, o3, o4, b1, b2, b3, b4, b5, b6⟩ := l_lay2 (E := E) (d := e) (B := B) (S := T) (c := c) (f := f) (wd := wd) (L := L) (τ := τ) (H := H) (by omega) a2 hS a3 hτ pb.2 (f 0).toNat (F + 99) 0 T none none (by omega) (by omega) (by omega) ⟨rfl, rfl, rfl, fun _ _ _ _ _ => rfl⟩ (by rw [bb_pn_0]; exact a2.1) (fun u u0 u1 => by omega) (by rw [pp_fl_0])
  have fin := l_lay3 (E := E) (d := e) (B := B) (c := c) (f := f) (τ := τ) (x1 := mm_i (bb_P f wd τ)) (by omega) hR (f 0).toNat n' 0 V o3 o4 (by omega) (by omega) (by omega) (fun i => by
    rw [b3]
    unfold bb_pn
    by_cases y : 9 ≤ i ∧ i % 7 = 2 ∧ i < 3 + 7 * f 0
    · rw [if_pos y, if_pos (by omega)]
    · rw [if_neg y, if_neg (by omega)]) b4
  obtain ⟨vI, vJ, vL, vA⟩ := b2
  refine ⟨V.sA 102 f, fun x k hx => ?_, ?_, ?_, fun x x1 x2 => ?_, ?_, ?_⟩
  · show V.I x k = _
    rw [vI]; exact tI x k hx
  · show V.J = _
    rw [vJ, tJ]
  · show V.L = _
    rw [vL, tL]
  · by_cases z : x = 102
    · rw [z]
      simp only [mm_gs]
      exact eF.symm
    · rw [mm_gA_ne z, vA x z x1 (by omega) (by omega)]; exact tA x (by omega)
  · rw [mm_gA_ne (by omega), b5, tA 105 (by omega)]
  · rw [h, mm_e203_0, a5, mm_cI_ok, ev]
    exact b6.trans fin
end
