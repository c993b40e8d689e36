/-! TAKE -/
section
variable {E : mm_E} {d B : Nat} {S : mm_S} {k : Nat}
theorem l_zeroM {τ : Int → Int} (hn : 0 ≤ S.A 102 0 ∧ S.A 102 0 ≤ 12) (hd : 1 ≤ d) (x1 : Int32) (c : mm_N) : ∀ (j i n : Nat), (S.A 102 0).toNat = i + j → j < n → ∃ m o2, n ≤ m + j + 1 ∧ mm_r190_35 E (mm_ev E d) n (mm_ad B 101) x1 (mm_i i) (mm_hp B (S.sA 105 (pp_fl (fun _ => 0) τ i)) c) = mm_r190_87 E (mm_ev E d) m (mm_ad B 101) x1 o2 (mm_hp B (S.sA 105 (pp_fl (fun _ => 0) τ (S.A 102 0))) c) := by
  intro j
  induction j with
  | zero =>
    intro i n hi hm
    obtain ⟨n, rfl⟩ : ∃ q, n = q + 1 := ⟨n - 1, by omega⟩
    have e : (i : Int) = S.A 102 0 := by omega
    refine ⟨n, some (.int (mm_i i)), by omega, ?_⟩
    have a : (S.sA 105 (pp_fl (fun _ => 0) τ i)).A 102 0 = S.A 102 0 := rfl
    rw [mm_e190_35, c_many hd, mm_cI_ok, a]
    simp (disch := omega) only [mm_br_le]
    rw [if_pos (by omega), e]
  | succ j ih =>
    intro i n hi hm
    obtain ⟨n, rfl⟩ : ∃ q, n = q + 1 := ⟨n - 1, by omega⟩
    obtain ⟨m, o2, m1, m2⟩ := ih (i + 1) n (by omega) (by omega)
    refine ⟨m, o2, by omega, ?_⟩
    have a : (S.sA 105 (pp_fl (fun _ => 0) τ i)).A 102 0 = S.A 102 0 := rfl
    rw [Int.natCast_add, Int.natCast_one, ← pp_fl_st (by omega)] at m2
    rw [← m2, mm_e190_35, c_many hd, mm_cI_ok, a]
    simp (disch := omega) only [mm_br_le]
    rw [if_neg (by omega)]
    simp (disch := omega) only [mm_ptM, mm_gs, mm_hm]
theorem iv_NT8 (h : iv S k) (τ : Int → Int) : pp_NT (S.sA 8 τ) 3 ∧ pp_RL ((S.sA 8 τ).sI 101 0 0) 3 (S.A 102) ∧ pp_NT ((S.sA 8 τ).sI 101 0 0) 3 := by
  have r := iv_RL h
  exact ⟨h.2.1.2.2, r, h.2.1.2.2⟩
theorem iv_ISL1 (h : iv S k) {a b τ σ : Int → Int} (g1 : pp_ISL (S.I 3 10) (S.A (3 + 1)) (pp_Wf (S.I 3 10) (S.A (3 + 3))) a τ) (g2 : pp_ISL (S.I 3 10) (S.A (3 + 1)) (pp_Wf (S.I 3 10) (S.A (3 + 3))) b σ) : ∀ s : Int, 0 ≤ s → s < S.I 3 10 → σ s = τ s := by
  obtain ⟨ps, hB⟩ := pp_NT_RB h.2.1.2.2
  exact pp_LZ_one (pp_Wf_in _ _) hB (fun s s0 s1 => (g2.1 s s0 s1).1) (fun s s0 s1 => (g1.1 s s0 s1).1)
/-- all but BEST -/
theorem i_take1 (h : iv S k) (hd : 22 ≤ d) {x : Int} (hx : 0 ≤ x ∧ x ≤ 3) (x2 : x ≠ 2) : iv_ok0 E B d S k 114 [.ref (mm_ad B 0), .int (mm_i x)] 190 [.ref (mm_ad B 101), .int (mm_i x)] := by
  intro c
  have nn := iv_nn h
  have eN := iv_N h
  obtain ⟨e, rfl⟩ : ∃ e, d = e + 1 := ⟨d - 1, by omega⟩
  obtain ⟨F, hF, he⟩ := mm_w114 E e B S c (mm_i x)
  have hM : ∀ s : Int, 0 ≤ s → s < 12 → 0 ≤ S.A 105 s ∧ S.A 105 s ≤ 119 := fun s s0 s1 => by
    have g := h.2.2.1.1 s s0 s1
    omega
  rw [mm_e114_0] at he
  simp (disch := omega) only [mm_br_lt, mm_br_le, mm_br_eq, mm_ptP] at he
  rw [if_neg (by omega), if_pos hx.2, if_neg x2, if_neg x2] at he
  have fin : ∀ τ σ : Int → Int, (∀ s : Int, 0 ≤ s → s < S.I 3 10 → 0 ≤ τ s ∧ τ s ≤ 119) → (∀ s : Int, S.I 3 10 ≤ s → τ s = S.A 8 s) → (∀ s : Int, 0 ≤ s → s < S.I 3 10 → σ s = τ s) → (∀ s : Int, S.I 3 10 ≤ s → σ s = S.A 105 s) → iv (((S.sA 8 τ).sI 101 0 0).sA 105 σ) k ∧ ∃ v, (∀ n c, mm_r114_94 E (mm_ev E e) (n + 1) (mm_ad B 0) (mm_i x) (mm_hp B (S.sA 8 τ) c) = mm_oI v (mm_hp B (S.sA 8 τ) c)) ∧ (∀ n c o2, mm_r190_87 E (mm_ev E e) (n + 1) (mm_ad B 101) (mm_i x) o2 (mm_hp B (((S.sA 8 τ).sI 101 0 0).sA 105 σ) c) = mm_oI v (mm_hp B (((S.sA 8 τ).sI 101 0 0).sA 105 σ) c)) := fun τ σ q1 q2 q3 q4 => by
    refine iv_tkF (S := S) (T := S.sA 8 τ) (U := ((S.sA 8 τ).sI 101 0 0).sA 105 σ) h (by omega) (mm_i x) (fun _ _ _ => rfl) (fun y _ y8 => mm_gA_ne y8) (fun y z hy => ?_) (fun y hy y5 => ?_) q1 q2 q3 q4
    · unfold iv_rI at hy
      show ((S.sA 8 τ).sI 101 0 0).I y z = _
      exact mm_gI_ne (by omega)
    · rw [mm_gA_ne y5]; rfl
  have mod : ∀ (τ : Int → Int), ∃ G, 99000 ≤ G ∧ mm_ev E (e + 1) 190 [.ref (mm_ad B 101), .int (mm_i x)] (mm_hp B (S.sA 8 τ) c) = if x = 0 then mm_r190_35 E (mm_ev E e) (G + 99) (mm_ad B 101) (mm_i x) (mm_i 0) (mm_hp B ((S.sA 8 τ).sI 101 0 0) c) else if x = 1 then mm_r190_64 E (mm_ev E e) (G + 99) (mm_ad B 101) (mm_i x) none (mm_hp B ((S.sA 8 τ).sI 101 0 0) c) else mm_r190_71 E (mm_ev E e) (G + 99) (mm_ad B 101) (mm_i x) none (mm_hp B ((S.sA 8 τ).sI 101 0 0) c) := fun τ => by
    obtain ⟨G, hG, ge⟩ := mm_w190 E e B (S.sA 8 τ) c (mm_i x)
    refine ⟨G, hG, ?_⟩
    rw [ge, mm_e190_0]
    simp (disch := omega) only [mm_ptM]
    rw [iv_MI (by omega) ⟨by omega, by omega⟩ (by omega) (by omega), if_pos hx]
    simp (disch := omega) only [mm_br_eq]
    rw [if_neg x2]
  by_cases x0 : x = 0
  · rw [if_neg (by omega), if_neg (by omega), c_planZero (by omega) (by omega) nn, mm_cV_ok] at he
    obtain ⟨G, hG, ge⟩ := mod (pp_fl (fun _ => 0) (S.A (3 + 5)) (S.I 3 10))
    rw [if_pos x0] at ge
    obtain ⟨m, o2, m1, m2⟩ := l_zeroM (E := E) (d := e) (B := B) (S := (S.sA 8 (pp_fl (fun _ => 0) (S.A (3 + 5)) (S.I 3 10))).sI 101 0 0) (τ := S.A 105) (by show 0 ≤ S.A 102 0 ∧ S.A 102 0 ≤ 12; omega) (by omega) (mm_i x) c (S.A 102 0).toNat 0 (G + 99) (by show (S.A 102 0).toNat = _; omega) (by omega)
    have z0 : ((S.sA 8 (pp_fl (fun _ => 0) (S.A (3 + 5)) (S.I 3 10))).sI 101 0 0).sA 105 (pp_fl (fun _ => 0) (S.A 105) ((0 : Nat) : Int)) = (S.sA 8 (pp_fl (fun _ => 0) (S.A (3 + 5)) (S.I 3 10))).sI 101 0 0 := by
      have z : pp_fl (fun _ => 0) (S.A 105) ((0 : Nat) : Int) = S.A 105 := by
        funext s
        unfold pp_fl
        rw [if_neg (by omega)]
      rw [z]
      exact pp_sA_id ((S.sA 8 (pp_fl (fun _ => 0) (S.A (3 + 5)) (S.I 3 10))).sI 101 0 0) 105
    rw [z0] at m2
    obtain ⟨m, rfl⟩ : ∃ q, m = q + 1 := ⟨m - 1, by omega⟩
    obtain ⟨f1, v, f2, f3⟩ := fin (pp_fl (fun _ => 0) (S.A (3 + 5)) (S.I 3 10)) (pp_fl (fun _ => 0) (S.A 105) (S.A 102 0)) (fun s s0 s1 => by rw [pp_fl_in s0 s1]; exact ⟨Int.le_refl 0, by omega⟩) (fun s s1 => pp_fl_out (by omega)) (fun s s0 s1 => by rw [pp_fl_in s0 s1, pp_fl_in s0 (by omega)]) (fun s s1 => pp_fl_out (by omega))
    exact ⟨_, _, v, he.trans (f2 _ _), ge.trans (m2.trans (f3 _ _ _)), iv_up f1 (by omega)⟩
  by_cases x1 : x = 1
  · obtain ⟨τ, t1, t2⟩ := c_lazily (E := E) (d := e) (B := B) (c := c) (S := S) (a := 3) (by omega) (by omega) h.2.1.2.2 (iv_TM h)
    rw [if_pos x1, t2, mm_cV_ok] at he
    obtain ⟨G, hG, ge⟩ := mod τ
    obtain ⟨σ, s1, s2⟩ := m_lazy (E := E) (d := e) (B := B) (c := c) (S := (S.sA 8 τ).sI 101 0 0) (a := 3) (by omega) (by omega) (iv_NT8 h τ).2.2 (iv_NT8 h τ).2.1 hM
    rw [if_neg x0, if_pos x1, mm_e190_64, s2, mm_cV_ok] at ge
    obtain ⟨f1, v, f2, f3⟩ := fin τ σ (fun s a b => by have := t1.1 s a b; omega) (fun s a => t1.2 s (by omega)) (iv_ISL1 h t1 s1) (fun s a => s1.2 s (by show ¬ (0 ≤ s ∧ s < S.I 3 10); omega))
    exact ⟨_, _, v, he.trans (f2 _ _), ge.trans (f3 _ _ _), iv_up f1 (by omega)⟩
  · obtain ⟨τ, t1, t2⟩ := c_planHalf (E := E) (d := e) (B := B) (c := c) (S := S) (a := 3) (by omega) (by omega) h.2.1.2.2 (iv_TM h)
    rw [if_neg x1, if_pos (by omega), t2, mm_cV_ok] at he
    obtain ⟨G, hG, ge⟩ := mod (pp_fl (pp_hf (S.A (3 + 1)) τ) τ (S.I 3 10))
    obtain ⟨σ, s1, s2⟩ := m_halves (E := E) (d := e) (B := B) (c := c) (S := (S.sA 8 (pp_fl (pp_hf (S.A (3 + 1)) τ) τ (S.I 3 10))).sI 101 0 0) (a := 3) (by omega) (by omega) (iv_NT8 h _).2.2 (iv_NT8 h _).2.1 hM
    rw [if_neg x0, if_neg x1, mm_e190_71] at ge
    simp (disch := omega) only [mm_br_eq] at ge
    rw [if_neg x2, s2, mm_cV_ok] at ge
    have eq := iv_ISL1 h t1 s1
    have hr : ∀ s : Int, 0 ≤ s → s < S.I 3 10 → 0 ≤ pp_hf (S.A (3 + 1)) τ s ∧ pp_hf (S.A (3 + 1)) τ s ≤ 119 := fun s a b => by
      have z := (t1.1 s a b).2
      have t := h.2.1.2.2.1.2.2.2.2 s a (by omega)
      unfold pp_tR at t
      unfold pp_hf
      by_cases y : S.A (3 + 1) (s * 7 + 6) = -1
      · rw [if_pos y]; omega
      · rw [if_neg y]; omega
    obtain ⟨f1, v, f2, f3⟩ := fin (pp_fl (pp_hf (S.A (3 + 1)) τ) τ (S.I 3 10)) (pp_fl (pp_hf (S.A (3 + 1)) σ) σ (S.I 3 10)) (fun s a b => by unfold pp_fl; rw [if_pos ⟨a, b⟩]; exact hr s a b) (fun s a => by unfold pp_fl; rw [if_neg (by omega)]; exact t1.2 s (by omega)) (fun s a b => by
      unfold pp_fl
      rw [if_pos ⟨a, b⟩, if_pos ⟨a, b⟩]
      unfold pp_hf
      rw [eq s a b]) (fun s a => by unfold pp_fl; rw [if_neg (by omega)]; exact s1.2 s (by show ¬ (0 ≤ s ∧ s < S.I 3 10); omega))
    exact ⟨_, _, v, he.trans (f2 _ _), ge.trans (f3 _ _ _), iv_up f1 (by omega)⟩
end
