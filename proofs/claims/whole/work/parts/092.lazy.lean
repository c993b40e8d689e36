/-! PLANS BY RULE: LAZY -/
/-- the TIME by LAZY, the WAIT being known -/
def pp_lz (T : Int → Int) (s w : Int) : Int := if T (s * 7 + 6) = -1 then (if T (s * 7 + 5) = -1 then w + T (s * 7 + 0) else min (w + T (s * 7 + 0)) (T (s * 7 + 5))) else min (if T (s * 7 + 5) = -1 then w + T (s * 7 + 0) else min (w + T (s * 7 + 0)) (T (s * 7 + 5))) (T (s * 7 + 6))
theorem pp_lz_r {T : Int → Int} {s w : Int} (ht : pp_tR T s) (h0 : 0 ≤ w) : 0 ≤ pp_lz T s w ∧ pp_lz T s w ≤ w + T (s * 7 + 0) := by
  unfold pp_tR at ht
  unfold pp_lz
  by_cases e5 : T (s * 7 + 5) = -1
  · by_cases e6 : T (s * 7 + 6) = -1
    · rw [if_pos e6, if_pos e5]; omega
    · rw [if_neg e6, if_pos e5]; omega
  · by_cases e6 : T (s * 7 + 6) = -1
    · rw [if_pos e6, if_neg e5]; omega
    · rw [if_neg e6, if_neg e5]; omega
/-- LAZY for those of P, as it was for others -/
def pp_LZ (n : Int) (T : Int → Int) (W : pp_W) (L τ0 τ : Int → Int) (P : Int → Prop) : Prop := (∀ s : Int, P s → 0 ≤ s ∧ s < n ∧ τ s = pp_lz T s (pp_gx (T (s * 7 + 2)) (fun k => W k s) τ n.toNat) ∧ 0 ≤ τ s ∧ τ s ≤ L s) ∧ (∀ s : Int, ¬ P s → τ s = τ0 s) ∧ (∀ s k : Int, P s → W k s = true → P k)
theorem pp_LZ_st {n : Int} {T : Int → Int} {W : pp_W} {L τ0 τ : Int → Int} {P : Int → Prop} {s : Int} (hn : n ≤ 12) (hT : ∀ s : Int, 0 ≤ s → s < 12 → pp_tR T s) (hL : pp_LQ n T W L) (h : pp_LZ n T W L τ0 τ P) (h1 : 0 ≤ s) (h2 : s < n) (hs : ¬ P s) (hk : ∀ k, W k s = true → P k) :
    pp_LZ n T W L τ0 (mm_u τ s (pp_lz T s (pp_gx (T (s * 7 + 2)) (fun k => W k s) τ n.toNat))) (fun t => P t ∨ t = s) := by
  obtain ⟨a1, a2, a3⟩ := h
  have ht := hT s h1 (by omega)
  have ht' := ht
  unfold pp_tR at ht'
  have q1 := pp_gx_ge (T (s * 7 + 2)) (fun k => W k s) τ n.toNat
  have r := pp_lz_r (w := pp_gx (T (s * 7 + 2)) (fun k => W k s) τ n.toNat) ht (by omega)
  have q2 : pp_gx (T (s * 7 + 2)) (fun k => W k s) τ n.toNat ≤ pp_gx (T (s * 7 + 2)) (fun k => W k s) L n.toNat := pp_gx_le _ (pp_gx_ge _ _ _ _) (fun i i1 i2 i3 => by
    have g := (a1 i (hk i i3)).2.2.2.2
    have g2 := pp_gx_of (b := T (s * 7 + 2)) (p := fun k => W k s) (g := L) n.toNat i i1 i2 i3
    omega)
  have hLs := hL s h1 h2
  have same : ∀ t : Int, (P t ∨ t = s) → pp_gx (T (t * 7 + 2)) (fun k => W k t) (mm_u τ s (pp_lz T s (pp_gx (T (s * 7 + 2)) (fun k => W k s) τ n.toNat))) n.toNat = pp_gx (T (t * 7 + 2)) (fun k => W k t) τ n.toNat := by
    intro t ht
    refine pp_gx_congr _ (fun i _ _ => ⟨rfl, fun hi => ?_⟩)
    rw [mm_u_ne]
    intro z
    subst z
    rcases ht with ht | ht
    · exact hs (a3 t i ht hi)
    · subst ht; exact hs (hk _ hi)
  refine ⟨fun t ht => ?_, fun t ht => ?_, fun t k ht hw => ?_⟩
  · rw [same t ht]
    by_cases e : t = s
    · subst e
      rw [mm_u_eq]
      exact ⟨h1, h2, rfl, by omega, by omega⟩
    · rw [mm_u_ne e]
      exact a1 t (ht.resolve_right e)
  · rw [mm_u_ne (fun z => ht (Or.inr z))]
    exact a2 t (fun z => ht (Or.inl z))
  · rcases ht with ht | ht
    · exact Or.inl (a3 t k ht hw)
    · subst ht; exact Or.inl (hk k hw)
/-- there is one LAZY alone -/
theorem pp_LZ_one {n : Int} {T : Int → Int} {W : pp_W} {ps : Int → Nat} (hW : pp_IN n W) (hB : pp_RB W ps) {τ σ : Int → Int} (h : ∀ s : Int, 0 ≤ s → s < n → τ s = pp_lz T s (pp_gx (T (s * 7 + 2)) (fun k => W k s) τ n.toNat)) (g : ∀ s : Int, 0 ≤ s → s < n → σ s = pp_lz T s (pp_gx (T (s * 7 + 2)) (fun k => W k s) σ n.toNat)) : ∀ s : Int, 0 ≤ s → s < n → τ s = σ s := by
  have main : ∀ (k : Nat) (s : Int), ps s < k → 0 ≤ s → s < n → τ s = σ s := by
    intro k
    induction k with
    | zero => intro s hk; omega
    | succ k ih =>
      intro s hk h1 h2
      rw [h s h1 h2, g s h1 h2]
      congr 1
      refine pp_gx_congr _ (fun i _ _ => ⟨rfl, fun hi => ?_⟩)
      have q := hW i s hi
      exact ih i (by have := hB.2 i s hi; omega) q.1 q.2.1
  intro s h1 h2
  exact main 12 s (hB.1 s) h1 h2
/-- the PLAN by LAZY -/
def pp_ISL (n : Int) (T : Int → Int) (W : pp_W) (τ0 τ : Int → Int) : Prop := (∀ s : Int, 0 ≤ s → s < n → τ s = pp_lz T s (pp_gx (T (s * 7 + 2)) (fun k => W k s) τ n.toNat) ∧ 0 ≤ τ s ∧ τ s ≤ 117) ∧ (∀ s : Int, ¬ (0 ≤ s ∧ s < n) → τ s = τ0 s)
section LAZY
variable {E : mm_E} {d B : Nat} {S : mm_S} {c : mm_N} {a : Nat}
theorem pp_TM_LZ {τ : Int → Int} {P : Int → Prop} (hT : pp_NT S a) (hM : pp_TM S a) (h : pp_LZ (S.I a 10) (S.A (a + 1)) (pp_Wf (S.I a 10) (S.A (a + 3))) (S.A (a + 10)) (S.A (a + 5)) τ P) : ∀ s : Int, 0 ≤ s → s < 12 → 0 ≤ τ s ∧ τ s ≤ 119 := by
  intro s h1 h2
  by_cases e : P s
  · have g := h.1 s e
    have l := hT.2.2.2.2.2.2.1 s g.1 g.2.1
    omega
  · rw [h.2.1 s e]
    exact hM s h1 h2
theorem l_lazily (hd : 3 ≤ d) (ha : a = 3 ∨ a = 14 ∨ a = 25) (hT : pp_NT S a) (hM : pp_TM S a) : ∀ (j n : Nat) (k : Int) (τ : Int → Int) (o2 o3 : Option Value), 0 ≤ k → S.I a 10 = k + j → 3 * j < n → pp_LZ (S.I a 10) (S.A (a + 1)) (pp_Wf (S.I a 10) (S.A (a + 3))) (S.A (a + 10)) (S.A (a + 5)) τ (fun s => ∃ i : Int, 0 ≤ i ∧ i < k ∧ S.A (a + 7) i = s) →
    ∃ τ', pp_ISL (S.I a 10) (S.A (a + 1)) (pp_Wf (S.I a 10) (S.A (a + 3))) (S.A (a + 5)) τ' ∧ mm_r57_2 E (mm_ev E d) n (mm_ad B a) (mm_i k) o2 o3 (mm_hp B (S.sA (a + 5) τ) c) = mm_oV (mm_hp B (S.sA (a + 5) τ') c) := by
  have hn := hT.1.1
  have hO := hT.2.2.1
  intro j
  induction j with
  | zero =>
    intro n k τ o2 o3 k0 hk hj hI
    obtain ⟨n, rfl⟩ : ∃ m, n = m + 1 := ⟨n - 1, by omega⟩
    refine ⟨τ, ⟨fun s h1 h2 => ?_, fun s hs => ?_⟩, ?_⟩
    · obtain ⟨i, i1, i2, i3⟩ := hO.2.2.2 s h1 h2
      have g := hI.1 s ⟨i, i1, by omega, i3⟩
      have l := hT.2.2.2.2.2.2.1 s h1 h2
      exact ⟨g.2.2.1, by omega, by omega⟩
    · refine hI.2.1 s ?_
      rintro ⟨i, i1, i2, i3⟩
      have g := hO.1 i i1 (by omega)
      rw [i3] at g
      exact hs g
    · rw [mm_e57_2]
      simp (disch := omega) only [mm_ptN, mm_gs, mm_br_le]
      rw [if_pos (by omega)]
  | succ j ih =>
    intro n k τ o2 o3 k0 hk hj hI
    obtain ⟨n, rfl⟩ : ∃ m, n = m + 3 := ⟨n - 3, by omega⟩
    have ho := hO.1 k k0 (by omega)
    have hI2 := pp_LZ_st (s := S.A (a + 7) k) hn.2 hT.1.2.2.2.2 hT.2.2.2.2.2.1 hI ho.1 ho.2 (fun ⟨i, i1, i2, i3⟩ => hO.2.1 i k i1 i2 (by omega) i3) (fun t ht => by
      obtain ⟨i, i1, i2, i3⟩ := hO.2.2.1 k t k0 (by omega) ht
      exact ⟨i, i1, i2, i3⟩)
    have hI3 : pp_LZ (S.I a 10) (S.A (a + 1)) (pp_Wf (S.I a 10) (S.A (a + 3))) (S.A (a + 10)) (S.A (a + 5)) (mm_u τ (S.A (a + 7) k) (pp_lz (S.A (a + 1)) (S.A (a + 7) k) (pp_gx (S.A (a + 1) (S.A (a + 7) k * 7 + 2)) (fun t => pp_Wf (S.I a 10) (S.A (a + 3)) t (S.A (a + 7) k)) τ (S.I a 10).toNat))) (fun s => ∃ i : Int, 0 ≤ i ∧ i < k + 1 ∧ S.A (a + 7) i = s) := by
      have e : (fun s => ∃ i : Int, 0 ≤ i ∧ i < k + 1 ∧ S.A (a + 7) i = s) = (fun t => (∃ i : Int, 0 ≤ i ∧ i < k ∧ S.A (a + 7) i = t) ∨ t = S.A (a + 7) k) := by
        funext t
        apply propext
        constructor
        · rintro ⟨i, i1, i2, i3⟩
          by_cases e : i = k
          · right; rw [← e]; exact i3.symm
          · left; exact ⟨i, i1, by omega, i3⟩
        · rintro (⟨i, i1, i2, i3⟩ | e)
          · exact ⟨i, i1, by omega, i3⟩
          · exact ⟨k, k0, by omega, e.symm⟩
      rw [e]
      exact hI2
    obtain ⟨τ', q1, q2⟩ := ih n (k + 1) _ (some (.int (mm_i (S.A (a + 7) k)))) (some (.int (mm_i (if S.A (a + 1) (S.A (a + 7) k * 7 + 5) = -1 then pp_gx (S.A (a + 1) (S.A (a + 7) k * 7 + 2)) (fun t => pp_Wf (S.I a 10) (S.A (a + 3)) t (S.A (a + 7) k)) τ (S.I a 10).toNat + S.A (a + 1) (S.A (a + 7) k * 7 + 0) else min (pp_gx (S.A (a + 1) (S.A (a + 7) k * 7 + 2)) (fun t => pp_Wf (S.I a 10) (S.A (a + 3)) t (S.A (a + 7) k)) τ (S.I a 10).toNat + S.A (a + 1) (S.A (a + 7) k * 7 + 0)) (S.A (a + 1) (S.A (a + 7) k * 7 + 5)))))) (by omega) (by omega) (by omega) hI3
    refine ⟨τ', q1, ?_⟩
    rw [← q2]
    have tm := pp_TM_LZ hT hM hI
    have t := hT.1.2.2.2.2 (S.A (a + 7) k) ho.1 (by omega)
    unfold pp_tR at t
    have hN2 : pp_NK (S.sA (a + 5) τ) a := pp_NK_cg hT.1 rfl rfl (mm_gA_ne (by omega)) (mm_gA_ne (by omega)) (mm_gA_ne (by omega))
    have hM2 : pp_TM (S.sA (a + 5) τ) a := by intro s; rw [mm_gs.2.2.2.2.2.2.2.2.1]; exact tm s
    have we : pp_wt (S.sA (a + 5) τ) a (S.A (a + 7) k) = pp_gx (S.A (a + 1) (S.A (a + 7) k * 7 + 2)) (fun t => pp_Wf (S.I a 10) (S.A (a + 3)) t (S.A (a + 7) k)) τ (S.I a 10).toNat := by
      unfold pp_wt
      rw [mm_gs.2.2.2.2.2.2.2.2.1, mm_gA_ne (by omega), mm_gA_ne (by omega)]
      rfl
    have wr := pp_wt_r (s := S.A (a + 7) k) hN2 hM2 ho.1 ho.2
    rw [we] at wr
    rw [mm_e57_2]
    simp (disch := omega) only [mm_ptN, mm_gs, pp_ne, mm_br_le]
    rw [if_neg (by omega), c_waitOf (S := S.sA (a + 5) τ) (by omega) ha hN2 hM2 ho.1 ho.2, we]
    generalize pp_gx (S.A (a + 1) (S.A (a + 7) k * 7 + 2)) (fun t => pp_Wf (S.I a 10) (S.A (a + 3)) t (S.A (a + 7) k)) τ (S.I a 10).toNat = w at *
    simp (disch := omega) only [mm_hm, c_told, mm_gs, pp_ne, mm_e57_30, mm_br_eq, mm_i_mn, mm_e57_55, mm_ptN]
    unfold pp_lz
    by_cases e5 : S.A (a + 1) (S.A (a + 7) k * 7 + 5) = -1
    · simp only [if_pos e5]
      by_cases e6 : S.A (a + 1) (S.A (a + 7) k * 7 + 6) = -1
      · simp only [if_pos e6]
      · simp only [if_neg e6]
    · simp only [if_neg e5]
      by_cases e6 : S.A (a + 1) (S.A (a + 7) k * 7 + 6) = -1
      · simp only [if_pos e6]
      · simp only [if_neg e6]
theorem pp_sA_id (S : mm_S) (b : Nat) : S.sA b (S.A b) = S := by
  apply pp_ext
  · intros; rfl
  · intros; rfl
  · intro x
    by_cases h : x = b
    · rw [h, mm_gs.2.2.2.2.2.2.2.2.1]
    · exact mm_gA_ne h
  · intros; rfl
theorem c_lazily (hd : 4 ≤ d) (ha : a = 3 ∨ a = 14 ∨ a = 25) (hT : pp_NT S a) (hM : pp_TM S a) : ∃ τ, pp_ISL (S.I a 10) (S.A (a + 1)) (pp_Wf (S.I a 10) (S.A (a + 3))) (S.A (a + 5)) τ ∧ mm_ev E d 57 [.ref (mm_ad B a)] (mm_hp B S c) = mm_oV (mm_hp B (S.sA (a + 5) τ) c) := by
  obtain ⟨e, rfl⟩ : ∃ e, d = e + 1 := ⟨d - 1, by omega⟩
  obtain ⟨F, hF, h⟩ := mm_w57 E e B S c a ha
  have hn := hT.1.1
  obtain ⟨τ, q1, q2⟩ := l_lazily (E := E) (d := e) (B := B) (c := c) (by omega) ha hT hM (S.I a 10).toNat (F + 99) 0 (S.A (a + 5)) none none (by omega) (by omega) (by omega) ⟨fun s ⟨i, i1, i2, _⟩ => by omega, fun s _ => rfl, fun s k ⟨i, i1, i2, _⟩ => by omega⟩
  rw [pp_sA_id] at q2
  exact ⟨τ, q1, by rw [h, mm_e57_0]; exact q2⟩
-- the model
theorem pp_cnt_cut {p : Int → Bool} (m : Nat) : ∀ (j : Nat), (∀ i : Int, (m : Int) ≤ i → i < m + j → p i = false) → mm_cnt p (m + j) = mm_cnt p m
  | 0, _ => rfl
  | j + 1, h => by
    show mm_cnt p (m + j) + mm_b1 (p ((m + j : Nat) : Int)) = mm_cnt p m
    rw [pp_cnt_cut m j (fun i h1 h2 => h i h1 (by omega)), h _ (by omega) (by omega)]
    exact Int.add_zero _
theorem pp_RL_cg {S T : mm_S} {a : Nat} {f : Int → Int} (h : pp_RL S a f) (e1 : T.I a 10 = S.I a 10) (e2 : T.I a 11 = S.I a 11) (e3 : T.A (a + 1) = S.A (a + 1)) (e4 : T.A (a + 2) = S.A (a + 2)) (e5 : T.A (a + 3) = S.A (a + 3)) : pp_RL T a f := by
  unfold pp_RL
  rw [e1, e2, e3, e4, e5]
  exact h
theorem l_waitG {s : Int} (hd : 2 ≤ d) (hN : pp_NK S a) (hR : pp_RL S a (S.A 102)) (hM : ∀ s : Int, 0 ≤ s → s < 12 → 0 ≤ S.A 105 s ∧ S.A 105 s ≤ 119) (h1 : 0 ≤ s) (h2 : s < S.I a 10) : ∀ (j k n : Nat), (S.I a 10).toNat = k + j → j < n → mm_r179_9 E (mm_ev E d) n (mm_ad B 101) (mm_i s) (mm_i (pp_gx (S.A (a + 1) (s * 7 + 2)) (fun k => pp_Wf (S.I a 10) (S.A (a + 3)) k s) (S.A 105) k)) (mm_i k) (mm_hp B S c) = mm_oI (pp_gx (S.A (a + 1) (s * 7 + 2)) (fun k => pp_Wf (S.I a 10) (S.A (a + 3)) k s) (S.A 105) (S.I a 10).toNat) (mm_hp B S c) := by
  obtain ⟨r0, r1, r2, hP, hW, hB⟩ := pp_RL_RV hN hR
  have cr := mm_sup_r s hP
  have t0 := hN.2.2.2.2 s h1 (by omega)
  unfold pp_tR at t0
  intro j
  induction j with
  | zero =>
    intro k n hk hn
    obtain ⟨n, rfl⟩ : ∃ m, n = m + 1 := ⟨n - 1, by omega⟩
    rw [mm_e179_9]
    simp (disch := omega) only [c_many, mm_hm, r0, mm_br_le]
    rw [if_pos (by omega), show (S.I a 10).toNat = k from hk]
  | succ j ih =>
    intro k n hk hn
    obtain ⟨n, rfl⟩ : ∃ m, n = m + 1 := ⟨n - 1, by omega⟩
    have ih := ih (k + 1) n (by omega) (by omega)
    rw [Int.natCast_add, Int.natCast_one] at ih
    have l0 := hM k (by omega) (by omega)
    have q1 := pp_gx_ge (S.A (a + 1) (s * 7 + 2)) (fun k => pp_Wf (S.I a 10) (S.A (a + 3)) k s) (S.A 105) k
    have q2 := pp_gx_le (b := S.A (a + 1) (s * 7 + 2)) (p := fun k => pp_Wf (S.I a 10) (S.A (a + 3)) k s) (g := S.A 105) (m := 119) k (by omega) (fun i h3 h4 _ => (hM i h3 (by omega)).2)
    rw [mm_e179_9]
    simp (disch := omega) only [c_many, mm_hm, r0, mm_br_le]
    rw [if_neg (by omega), c_suppliersOf hd hP (by omega) (by omega)]
    simp (disch := omega) only [c_isOf, mm_hm, mm_br_b1, mm_ptM, mm_i_mx]
    rw [(hB k s (by omega) (by omega) h1 (by omega)).1, ← ih, pp_gx]
    by_cases h : pp_Wf (S.I a 10) (S.A (a + 3)) k s = true
    · rw [if_pos h, if_pos h]
    · rw [if_neg h, if_neg h]
theorem m_waitG {s : Int} (hd : 3 ≤ d) (hN : pp_NK S a) (hR : pp_RL S a (S.A 102)) (hM : ∀ s : Int, 0 ≤ s → s < 12 → 0 ≤ S.A 105 s ∧ S.A 105 s ≤ 119) (h1 : 0 ≤ s) (h2 : s < S.I a 10) : mm_ev E d 179 [.ref (mm_ad B 101), .int (mm_i s)] (mm_hp B S c) = mm_oI (pp_gx (S.A (a + 1) (s * 7 + 2)) (fun k => pp_Wf (S.I a 10) (S.A (a + 3)) k s) (S.A 105) (S.I a 10).toNat) (mm_hp B S c) := by
  refine mm_v179 (by omega) (fun F e hF he => ?_)
  have g := hN.1
  simp (disch := omega) only [mm_e179_0, c_of, mm_hm]
  rw [hR.2.2.2.1 s 2 h1 h2 (by omega) (by omega)]
  exact l_waitG (by omega) hN hR hM h1 h2 (S.I a 10).toNat 0 (F + 99) (by omega) (by omega)
theorem l_lazyIn (hd : 4 ≤ d) (ha : a = 3 ∨ a = 14 ∨ a = 25) (hT : pp_NT S a) (hR : pp_RL S a (S.A 102)) (hM : ∀ s : Int, 0 ≤ s → s < 12 → 0 ≤ S.A 105 s ∧ S.A 105 s ≤ 119) : ∀ (j k n : Nat) (dn : Int) (τ : Int → Int) (o3 : Option Value), (S.I a 10).toNat = k + j → 4 * j < n → 0 ≤ dn → dn < 4096 → (∀ s : Int, 0 ≤ s → mm_bt dn s = true → s < S.I a 10) → pp_LZ (S.I a 10) (S.A (a + 1)) (pp_Wf (S.I a 10) (S.A (a + 3))) (S.A (a + 10)) (S.A 105) τ (fun s => 0 ≤ s ∧ mm_bt dn s = true) →
    ∃ (m : Nat) (dn' : Int) (τ' : Int → Int) (o2 o3' : Option Value), n ≤ m + 4 * j + 1 ∧ 0 ≤ dn' ∧ dn' < 4096 ∧ (∀ s : Int, 0 ≤ s → mm_bt dn' s = true → s < S.I a 10) ∧ pp_LZ (S.I a 10) (S.A (a + 1)) (pp_Wf (S.I a 10) (S.A (a + 3))) (S.A (a + 10)) (S.A 105) τ' (fun s => 0 ≤ s ∧ mm_bt dn' s = true) ∧ (∀ t : Int, mm_bt dn t = true → mm_bt dn' t = true) ∧ (∀ t : Int, k ≤ t → t < S.I a 10 → (∀ i, pp_Wf (S.I a 10) (S.A (a + 3)) i t = true → mm_bt dn i = true) → mm_bt dn' t = true)
      ∧ mm_r188_15 E (mm_ev E d) n (mm_ad B 101) (mm_i dn) (mm_i k) o3 (mm_hp B (S.sA 105 τ) c) = mm_r188_2 E (mm_ev E d) m (mm_ad B 101) (mm_i dn') o2 o3' (mm_hp B (S.sA 105 τ') c) := by
  have hn := hT.1.1
  have r0 := hR.1
  have hP := hR.2.2.1
  have hB := hR.2.2.2.2.1
  intro j
  induction j with
  | zero =>
    intro k n dn τ o3 hk hj d0 d1 d2 hI
    obtain ⟨n, rfl⟩ : ∃ m, n = m + 1 := ⟨n - 1, by omega⟩
    refine ⟨n, dn, τ, some (.int (mm_i k)), o3, by omega, d0, d1, d2, hI, fun t h => h, fun t h1 h2 => by omega, ?_⟩
    rw [mm_e188_15, c_many (by omega), mm_cI_ok, mm_gA_ne (by omega), r0, mm_br_le (by omega) (by omega) (by omega) (by omega), if_pos (by omega)]
  | succ j ih =>
    intro k n dn τ o3 hk hj d0 d1 d2 hI
    obtain ⟨n, rfl⟩ : ∃ m, n = m + 4 := ⟨n - 4, by omega⟩
    have k12 : (k : Int) < 12 := by omega
    have hA : (S.sA 105 τ).A 102 = S.A 102 := mm_gA_ne (by omega)
    have cr := mm_sup_r k hP
    rw [mm_e188_15, c_many (by omega), mm_cI_ok, hA, r0, mm_br_le (by omega) (by omega) (by omega) (by omega), if_neg (by omega), c_isOf (by omega) d0 (by omega) (by omega), mm_cI_ok, mm_br_b1]
    by_cases e : mm_bt dn k = true
    · rw [if_pos e]
      simp only [mm_hm]
      obtain ⟨m, dn', τ', o2, o3', q1, q2, q3, q4, q5, q6, q7, q8⟩ := ih (k + 1) (n + 3) dn τ o3 (by omega) (by omega) d0 d1 d2 hI
      rw [Int.natCast_add, Int.natCast_one] at q7 q8
      refine ⟨m, dn', τ', o2, o3', by omega, q2, q3, q4, q5, q6, fun t h1 h2 h3 => ?_, q8⟩
      by_cases z : t = k
      · rw [z]; exact q6 k e
      · exact q7 t (by omega) h2 h3
    · rw [if_neg e, c_suppliersOf (by omega) (by rw [hA]; exact hP) (by omega) (by omega), mm_cI_ok, hA, mm_i_andn cr.1 d0]
      have z1 := mm_idf_nn (mm_sup (S.A 102) k) dn
      have z2 := mm_idf_lt (y := dn) cr.2
      have Wk : ∀ i : Int, 0 ≤ i → i < 12 → mm_bt (mm_sup (S.A 102) k) i = pp_Wf (S.I a 10) (S.A (a + 3)) i k := fun i i1 i2 => (hB i k i1 i2 (by omega) (by omega)).1
      rw [mm_br_eq (by omega) (by omega) (by omega) (by omega)]
      simp only [mm_hm]
      by_cases f : mm_idf (mm_sup (S.A 102) k) dn = 0
      · rw [if_pos f]
        have hj : ∀ i, pp_Wf (S.I a 10) (S.A (a + 3)) i k = true → 0 ≤ i ∧ mm_bt dn i = true := fun i hi => by
          have g := pp_Wf_in _ _ i k hi
          exact ⟨g.1, (pp_idf0 cr.1 cr.2).mp f i g.1 (by omega) (by rw [Wk i g.1 (by omega)]; exact hi)⟩
        have hI2 := pp_LZ_st (s := k) hn.2 hT.1.2.2.2.2 hT.2.2.2.2.2.1 hI (by omega) (by omega) (fun z => e z.2) hj
        have hb : ∀ t : Int, 0 ≤ t → mm_bt (mm_ior dn (mm_pw k)) t = (mm_bt dn t || decide (t = (k : Int))) := fun t ht => by rw [mm_bt_or, mm_bt_pw (by omega) ht]
        have eP : (fun t : Int => (0 ≤ t ∧ mm_bt dn t = true) ∨ t = (k : Int)) = (fun t : Int => 0 ≤ t ∧ mm_bt (mm_ior dn (mm_pw k)) t = true) := by
          funext t
          apply propext
          constructor
          · rintro (⟨h1, h2⟩ | h)
            · exact ⟨h1, by rw [hb t h1, h2]; rfl⟩
            · have h0 : 0 ≤ t := by omega
              exact ⟨h0, by rw [hb t h0, decide_eq_true h, Bool.or_true]⟩
          · rintro ⟨h1, h2⟩
            rw [hb t h1] at h2
            rcases Bool.or_eq_true_iff.mp h2 with h2 | h2
            · exact Or.inl ⟨h1, h2⟩
            · exact Or.inr (of_decide_eq_true h2)
        rw [eP] at hI2
        have y3 := mm_pw_nn k
        have tm : ∀ s : Int, 0 ≤ s → s < 12 → 0 ≤ τ s ∧ τ s ≤ 119 := by
          intro s h1 h2
          by_cases e : 0 ≤ s ∧ mm_bt dn s = true
          · have g := hI.1 s e
            have l := hT.2.2.2.2.2.2.1 s g.1 g.2.1
            omega
          · rw [hI.2.1 s e]
            exact hM s h1 h2
        have hN2 : pp_NK (S.sA 105 τ) a := pp_NK_cg hT.1 rfl rfl (mm_gA_ne (by omega)) (mm_gA_ne (by omega)) (mm_gA_ne (by omega))
        have hR2 : pp_RL (S.sA 105 τ) a ((S.sA 105 τ).A 102) := by
          rw [hA]
          exact pp_RL_cg hR rfl rfl (mm_gA_ne (by omega)) (mm_gA_ne (by omega)) (mm_gA_ne (by omega))
        have hM2 : ∀ s : Int, 0 ≤ s → s < 12 → 0 ≤ (S.sA 105 τ).A 105 s ∧ (S.sA 105 τ).A 105 s ≤ 119 := by intro s; rw [mm_gs.2.2.2.2.2.2.2.2.1]; exact tm s
        obtain ⟨m, dn', τ', o2, o3', q1, q2, q3, q4, q5, q6, q7, q8⟩ := ih (k + 1) n (mm_ior dn (mm_pw k)) _ (some (.int (mm_i (pp_lz (S.A (a + 1)) k (pp_gx (S.A (a + 1) ((k : Int) * 7 + 2)) (fun t => pp_Wf (S.I a 10) (S.A (a + 3)) t k) τ (S.I a 10).toNat))))) (by omega) (by omega) (mm_ior_nn _ _) (mm_ior_lt d1 (mm_pw_lt k12)) (fun s h1 h2 => by
          rw [hb s h1] at h2
          rcases Bool.or_eq_true_iff.mp h2 with h2 | h2
          · exact d2 s h1 h2
          · have := of_decide_eq_true h2
            omega) hI2
        rw [Int.natCast_add, Int.natCast_one] at q7 q8
        have q9 : ∀ t : Int, mm_bt dn t = true → mm_bt dn' t = true := fun t h => q6 t (by rw [mm_bt_or, h]; rfl)
        refine ⟨m, dn', τ', o2, o3', by omega, q2, q3, q4, q5, q9, fun t h1 h2 h3 => ?_, ?_⟩
        · by_cases z : t = k
          · rw [z]
            exact q6 k (by rw [hb k (by omega)]; simp)
          · exact q7 t (by omega) h2 (fun i hi => by rw [mm_bt_or, h3 i hi]; rfl)
        · rw [← q8, mm_e188_46, m_waitG (S := S.sA 105 τ) (by omega) hN2 hR2 hM2 (by omega) (by show (k : Int) < S.I a 10; omega)]
          have t := hT.1.2.2.2.2 k (by omega) (by omega)
          unfold pp_tR at t
          have q1 := pp_gx_ge (S.A (a + 1) ((k : Int) * 7 + 2)) (fun t => pp_Wf (S.I a 10) (S.A (a + 3)) t k) τ (S.I a 10).toNat
          have q2 := pp_gx_le (b := S.A (a + 1) ((k : Int) * 7 + 2)) (p := fun t => pp_Wf (S.I a 10) (S.A (a + 3)) t k) (g := τ) (m := 119) (S.I a 10).toNat (by omega) (fun i h3 h4 _ => (tm i h3 (by omega)).2)
          have t0 := hR.2.2.2.1 k 0 (by omega) (by omega) (by omega) (by omega)
          have t5 := hR.2.2.2.1 k 5 (by omega) (by omega) (by omega) (by omega)
          have t6 := hR.2.2.2.1 k 6 (by omega) (by omega) (by omega) (by omega)
          simp (disch := omega) only [mm_hm, mm_gs, pp_ne, c_of, t0, t5, t6]
          generalize pp_gx (S.A (a + 1) ((k : Int) * 7 + 2)) (fun t => pp_Wf (S.I a 10) (S.A (a + 3)) t k) τ (S.I a 10).toNat = w at *
          simp (disch := omega) only [mm_br_eq, mm_i_mn, mm_e188_80, c_of, mm_gs, pp_ne, t5, t6, mm_hm, mm_e188_103, mm_ptM, mm_i_shl, mm_i_or]
          unfold pp_lz
          by_cases e5 : S.A (a + 1) ((k : Int) * 7 + 5) = -1
          · simp only [if_pos e5]
            by_cases e6 : S.A (a + 1) ((k : Int) * 7 + 6) = -1
            · simp only [if_pos e6]
            · simp only [if_neg e6]
          · simp only [if_neg e5]
            by_cases e6 : S.A (a + 1) ((k : Int) * 7 + 6) = -1
            · simp only [if_pos e6]
            · simp only [if_neg e6]
      · rw [if_neg f]
        obtain ⟨m, dn', τ', o2, o3', q1, q2, q3, q4, q5, q6, q7, q8⟩ := ih (k + 1) (n + 3) dn τ o3 (by omega) (by omega) d0 d1 d2 hI
        rw [Int.natCast_add, Int.natCast_one] at q7 q8
        refine ⟨m, dn', τ', o2, o3', by omega, q2, q3, q4, q5, q6, fun t h1 h2 h3 => ?_, q8⟩
        by_cases z : t = k
        · exfalso
          rw [z] at h3
          refine f ((pp_idf0 cr.1 cr.2).mpr (fun i i1 i2 i3 => h3 i ?_))
          rw [Wk i i1 i2] at i3
          exact i3
        · exact q7 t (by omega) h2 h3
theorem l_lazyOut (hd : 4 ≤ d) (ha : a = 3 ∨ a = 14 ∨ a = 25) (hT : pp_NT S a) (hR : pp_RL S a (S.A 102)) (hM : ∀ s : Int, 0 ≤ s → s < 12 → 0 ≤ S.A 105 s ∧ S.A 105 s ≤ 119) : ∀ (j n : Nat) (dn : Int) (τ : Int → Int) (o2 o3 : Option Value), S.I a 10 ≤ mm_cnt (mm_bt dn) (S.I a 10).toNat + j → 60 * (j + 1) ≤ n → 0 ≤ dn → dn < 4096 → (∀ s : Int, 0 ≤ s → mm_bt dn s = true → s < S.I a 10) → pp_LZ (S.I a 10) (S.A (a + 1)) (pp_Wf (S.I a 10) (S.A (a + 3))) (S.A (a + 10)) (S.A 105) τ (fun s => 0 ≤ s ∧ mm_bt dn s = true) →
    ∃ τ', pp_ISL (S.I a 10) (S.A (a + 1)) (pp_Wf (S.I a 10) (S.A (a + 3))) (S.A 105) τ' ∧ mm_r188_2 E (mm_ev E d) n (mm_ad B 101) (mm_i dn) o2 o3 (mm_hp B (S.sA 105 τ) c) = mm_oV (mm_hp B (S.sA 105 τ') c) := by
  have hn := hT.1.1
  have r0 := hR.1
  have cut : ∀ dn : Int, (∀ s : Int, 0 ≤ s → mm_bt dn s = true → s < S.I a 10) → mm_pc dn = mm_cnt (mm_bt dn) (S.I a 10).toNat := fun dn h => by
    have g := pp_cnt_cut (p := mm_bt dn) (S.I a 10).toNat (12 - (S.I a 10).toNat) (fun i i1 i2 => by
      cases e : mm_bt dn i with
      | false => rfl
      | true => have := h i (by omega) e; omega)
    rw [show (S.I a 10).toNat + (12 - (S.I a 10).toNat) = 12 by omega] at g
    exact g
  have fin : ∀ (dn : Int) (τ : Int → Int), S.I a 10 ≤ mm_cnt (mm_bt dn) (S.I a 10).toNat → pp_LZ (S.I a 10) (S.A (a + 1)) (pp_Wf (S.I a 10) (S.A (a + 3))) (S.A (a + 10)) (S.A 105) τ (fun s => 0 ≤ s ∧ mm_bt dn s = true) → pp_ISL (S.I a 10) (S.A (a + 1)) (pp_Wf (S.I a 10) (S.A (a + 3))) (S.A 105) τ := fun dn τ h1 h2 => by
    have z := mm_cnt_nn (mm_bt dn) (S.I a 10).toNat
    have al := pp_cnt_all (p := mm_bt dn) (S.I a 10).toNat (by omega)
    refine ⟨fun s s1 s2 => ?_, fun s hs => ?_⟩
    · have g := h2.1 s ⟨s1, al s s1 (by omega)⟩
      have l := hT.2.2.2.2.2.2.1 s s1 s2
      exact ⟨g.2.2.1, g.2.2.2.1, by omega⟩
    · refine h2.2.1 s (fun z => hs ?_)
      have g := h2.1 s z
      exact ⟨g.1, g.2.1⟩
  intro j
  induction j with
  | zero =>
    intro n dn τ o2 o3 hj hn2 d0 d1 d2 hI
    obtain ⟨n, rfl⟩ : ∃ m, n = m + 1 := ⟨n - 1, by omega⟩
    have z := mm_cnt_nn (mm_bt dn) (S.I a 10).toNat
    refine ⟨τ, fin dn τ (by omega) hI, ?_⟩
    rw [mm_e188_2, c_bitsOf (by omega) d0 d1, mm_cI_ok, c_many (by omega), mm_cI_ok, mm_gA_ne (by omega), r0, cut dn d2, mm_br_le (by omega) (by omega) (by omega) (by omega), if_pos (by omega)]
  | succ j ih =>
    intro n dn τ o2 o3 hj hn2 d0 d1 d2 hI
    obtain ⟨n, rfl⟩ : ∃ m, n = m + 1 := ⟨n - 1, by omega⟩
    have z := mm_cnt_nn (mm_bt dn) (S.I a 10).toNat
    rw [mm_e188_2, c_bitsOf (by omega) d0 d1, mm_cI_ok, c_many (by omega), mm_cI_ok, mm_gA_ne (by omega), r0, cut dn d2, mm_br_le (by omega) (by omega) (by omega) (by omega)]
    by_cases f : S.I a 10 ≤ mm_cnt (mm_bt dn) (S.I a 10).toNat
    · rw [if_pos f]
      exact ⟨τ, fin dn τ f hI, rfl⟩
    · rw [if_neg f]
      obtain ⟨m, dn', τ', o2', o3', q1, q2, q3, q4, q5, q6, q7, q8⟩ := l_lazyIn (E := E) (d := d) (B := B) (c := c) hd ha hT hR hM (S.I a 10).toNat 0 n dn τ o3 (by omega) (by omega) d0 d1 d2 hI
      have q8 : mm_r188_15 E (mm_ev E d) n (mm_ad B 101) (mm_i dn) (mm_i 0) o3 (mm_hp B (S.sA 105 τ) c) = _ := q8
      rw [q8]
      obtain ⟨ps, hB⟩ := pp_NT_RB hT
      have ex : ∃ s : Int, 0 ≤ s ∧ s < S.I a 10 ∧ mm_bt dn s = false := by
        by_cases ex : ∃ s : Int, 0 ≤ s ∧ s < S.I a 10 ∧ mm_bt dn s = false
        · exact ex
        · exfalso
          have e2 : mm_cnt (mm_bt dn) (S.I a 10).toNat = mm_cnt (fun _ => true) (S.I a 10).toNat := mm_cnt_congr _ (fun i i1 i2 => by
            cases h : mm_bt dn i with
            | true => rfl
            | false => exact absurd ⟨i, i1, by omega, h⟩ ex)
          have e3 : ∀ k : Nat, mm_cnt (fun _ => true) k = k := by
            intro k
            induction k with
            | zero => rfl
            | succ k ih => show mm_cnt (fun _ => true) k + 1 = _; rw [ih]; omega
          rw [e3] at e2
          omega
      obtain ⟨s, s1, s2, s3⟩ := ex
      obtain ⟨t, t1, t2, t3, t4⟩ := pp_next (pp_Wf_in _ _) hB.2 (mm_bt dn) (ps s) s (Nat.le_refl _) s1 s2 s3
      have g := pp_cnt_lt (p := mm_bt dn) (q := mm_bt dn') (s := t) (S.I a 10).toNat (fun i _ _ h => q6 i h) t1 (by omega) t3 (q7 t (by omega) t2 t4)
      exact ih m dn' τ' o2' o3' (by omega) (by omega) q2 q3 q4 q5
theorem m_lazy (hd : 5 ≤ d) (ha : a = 3 ∨ a = 14 ∨ a = 25) (hT : pp_NT S a) (hR : pp_RL S a (S.A 102)) (hM : ∀ s : Int, 0 ≤ s → s < 12 → 0 ≤ S.A 105 s ∧ S.A 105 s ≤ 119) : ∃ τ, pp_ISL (S.I a 10) (S.A (a + 1)) (pp_Wf (S.I a 10) (S.A (a + 3))) (S.A 105) τ ∧ mm_ev E d 188 [.ref (mm_ad B 101)] (mm_hp B S c) = mm_oV (mm_hp B (S.sA 105 τ) c) := by
  obtain ⟨e, rfl⟩ : ∃ e, d = e + 1 := ⟨d - 1, by omega⟩
  obtain ⟨F, hF, h⟩ := mm_w188 E e B S c
  have hn := hT.1.1
  have z := mm_cnt_nn (mm_bt 0) (S.I a 10).toNat
  obtain ⟨τ, q1, q2⟩ := l_lazyOut (E := E) (d := e) (B := B) (c := c) (by omega) ha hT hR hM 12 (F + 99) 0 (S.A 105) none none (by omega) (by omega) (by omega) (by omega) (fun s _ h2 => by rw [mm_bt_0] at h2; cases h2) ⟨fun s h => Bool.noConfusion ((mm_bt_0 s).symm.trans h.2), fun s _ => rfl, fun s k h => Bool.noConfusion ((mm_bt_0 s).symm.trans h.2)⟩
  rw [pp_sA_id] at q2
  exact ⟨τ, q1, by rw [h, mm_e188_0]; exact q2⟩
end LAZY
