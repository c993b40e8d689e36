/-! CHAIN, DRAWN -/
section
variable {E : mm_E} {d B : Nat} {S : mm_S} {k : Nat}
def iv_cv (S : mm_S) (y : Int) : Nat → Int → Int → Option Int
  | 0, _, m => if y = -1 then some m else none
  | j + 1, s, m => if s = -1 then (if y = -1 then some m else none) else if m = y then some s else iv_cv S y j (pp_nx S 3 s) (m + 1)
theorem iv_nx (h : iv S k) {s : Int} {ps : Int → Nat} (hB : pp_RB (pp_Wf (S.I 3 10) (S.A (3 + 3))) ps) (s0 : 0 ≤ s) (s1 : s < S.I 3 10) : pp_nx S 3 s = -1 ∨ ((0 ≤ pp_nx S 3 s ∧ pp_nx S 3 s < S.I 3 10) ∧ ps (pp_nx S 3 s) < ps s) := by
  have hn := iv_nn h
  unfold pp_nx
  rcases pp_ac_r (fun k => pp_Wf (S.I 3 10) (S.A (3 + 3)) k s) (S.A (3 + 10)) (S.I 3 10).toNat with g | ⟨g1, g2, g3⟩
  · rw [if_pos g]; exact Or.inl rfl
  · rw [if_neg (by omega)]
    by_cases q : S.A (3 + 10) (pp_ac (fun k => pp_Wf (S.I 3 10) (S.A (3 + 3)) k s) (S.A (3 + 10)) (S.I 3 10).toNat) + S.A (3 + 1) (s * 7 + 0) = S.A (3 + 10) s
    · rw [if_pos q]
      exact Or.inr ⟨⟨g1, by omega⟩, hB.2 _ _ g3⟩
    · rw [if_neg q]; exact Or.inl rfl
def iv_cR (B : Nat) (S : mm_S) (c : mm_N) (v : Option Int) : mm_R := match v with | some v => mm_oI v (mm_hp B S c) | none => pp_th 0 S c B
theorem l_chainC (h : iv S k) (hd : 2 ≤ d) {y : Int} (hy : iv_n y) (c : mm_N) (x1 : Int32) {ps : Int → Nat} (hB : pp_RB (pp_Wf (S.I 3 10) (S.A (3 + 3))) ps) : ∀ (j n m : Nat) (s : Int), m + j = 12 → j < n → (s = -1 ∨ (0 ≤ s ∧ s < S.I 3 10)) → mm_r128_13 E (mm_ev E d) n (mm_ad B 0) x1 (mm_i y) (mm_i s) (mm_i m) (mm_i m) (mm_hp B S c) = iv_cR B S c (iv_cv S y j s m) := by
  have hn := iv_nn h
  have y1 := hy.1
  have y2 := hy.2
  intro j
  induction j with
  | zero =>
    intro n m s hm hj hs
    obtain ⟨n, rfl⟩ : ∃ q, n = q + 1 := ⟨n - 1, by omega⟩
    rw [mm_e128_13]
    simp (disch := omega) only [mm_br_le, mm_br_eq]
    rw [if_pos (by omega), iv_cv]
    by_cases e : y = -1
    · rw [if_pos e, if_pos e]; rfl
    · rw [if_neg e, if_neg e]; rfl
  | succ j ih =>
    intro n m s hm hj hs
    obtain ⟨n, rfl⟩ : ∃ q, n = q + 1 := ⟨n - 1, by omega⟩
    have sr : -1 ≤ s ∧ s < 12 := by rcases hs with g | g <;> omega
    rw [mm_e128_13]
    simp (disch := omega) only [mm_br_le, mm_br_eq]
    rw [if_neg (by omega), iv_cv]
    by_cases e1 : s = -1
    · rw [if_pos e1, if_pos e1]
      by_cases e : y = -1
      · rw [if_pos e, if_pos e]; rfl
      · rw [if_neg e, if_neg e]; rfl
    · have s2 : 0 ≤ s ∧ s < S.I 3 10 := by rcases hs with g | g <;> omega
      rw [if_neg e1, if_neg e1]
      by_cases e2 : (m : Int) = y
      · rw [if_pos e2, if_pos e2]; rfl
      · rw [if_neg e2, if_neg e2]
        simp (disch := omega) only [mm_ptP]
        have z := iv_nx h hB s2.1 s2.2
        rw [c_ahead hd (by omega) h.2.1.2.2 s2.1 s2.2, mm_cI_ok, mm_i_add]
        have ih := ih n (m + 1) (pp_nx S 3 s) (by omega) (by omega) (by rcases z with z | z; exact Or.inl z; exact Or.inr z.1)
        rw [Int.natCast_add, Int.natCast_one] at ih
        exact ih
theorem l_chainM (h : iv S k) (hd : 16 ≤ d) {y : Int} (hy : iv_n y) (c : mm_N) (x1 : Int32) {ps : Int → Nat} (hB : pp_RB (pp_Wf (S.I 3 10) (S.A (3 + 3))) ps) (v : Int) : ∀ (j n m : Nat) (s : Int), m + j = 12 → j < n → (s = -1 ∨ ((0 ≤ s ∧ s < S.I 3 10) ∧ ps s < j)) → mm_r224_29 E (mm_ev E d) n (mm_ad B 101) x1 (mm_i y) (mm_i m) (mm_i s) (mm_hp B (S.sI 101 0 v) c) = match iv_cv S y j s m with | some w => mm_oI w (mm_hp B (S.sI 101 0 v) c) | none => mm_oI 0 (mm_hp B (S.sI 101 0 1) c) := by
  have hn := iv_nn h
  have y1 := hy.1
  have y2 := hy.2
  intro j
  induction j with
  | zero =>
    intro n m s hm hj hs
    obtain ⟨n, rfl⟩ : ∃ q, n = q + 1 := ⟨n - 1, by omega⟩
    have e1 : s = -1 := by rcases hs with g | g <;> omega
    rw [mm_e224_29]
    simp (disch := omega) only [mm_br_eq]
    rw [if_pos e1, iv_cv]
    by_cases e : y = -1
    · rw [if_pos e, if_pos e]
    · rw [if_neg e, if_neg e, iv_MF (by omega)]
  | succ j ih =>
    intro n m s hm hj hs
    obtain ⟨n, rfl⟩ : ∃ q, n = q + 1 := ⟨n - 1, by omega⟩
    have sr : -1 ≤ s ∧ s < 12 := by rcases hs with g | g <;> omega
    rw [mm_e224_29]
    simp (disch := omega) only [mm_br_le, mm_br_eq]
    rw [iv_cv]
    by_cases e1 : s = -1
    · rw [if_pos e1, if_pos e1]
      by_cases e : y = -1
      · rw [if_pos e, if_pos e]
      · rw [if_neg e, if_neg e, iv_MF (by omega)]
    · have s2 : (0 ≤ s ∧ s < S.I 3 10) ∧ ps s < j + 1 := by rcases hs with g | g; exact absurd g e1; exact g
      rw [if_neg e1, if_neg e1]
      by_cases e2 : (m : Int) = y
      · rw [if_pos e2, if_pos e2]
      · rw [if_neg e2, if_neg e2]
        have z := iv_nx h hB s2.1.1 s2.1.2
        have a := m_ahead (E := E) (d := d) (B := B) (c := c) (S := S.sI 101 0 v) (a := 3) (s := s) hd h.2.1.2.2 (iv_RL h) s2.1.1 s2.1.2
        have an : pp_nx (S.sI 101 0 v) 3 s = pp_nx S 3 s := rfl
        rw [a, mm_cI_ok, an, mm_i_add]
        have ih := ih n (m + 1) (pp_nx S 3 s) (by omega) (by omega) (by rcases z with z | z; exact Or.inl z; exact Or.inr ⟨z.1, by omega⟩)
        rw [Int.natCast_add, Int.natCast_one] at ih
        exact ih
theorem iv_cv_neg {y : Int} (hy : y < -1) : ∀ (j : Nat) (s m : Int), 0 ≤ m → iv_cv S y j s m = none
  | 0, _, _, _ => by rw [iv_cv, if_neg (by omega)]
  | j + 1, s, m, hm => by
    rw [iv_cv, if_neg (show ¬ y = -1 by omega), if_neg (show ¬ m = y by omega), iv_cv_neg hy j _ _ (by omega)]
    by_cases e : s = -1
    · rw [if_pos e]
    · rw [if_neg e]
theorem iv_cv_c {T : mm_S} {y : Int} (h : ∀ s, pp_nx T 3 s = pp_nx S 3 s) : ∀ (j : Nat) (s m : Int), iv_cv T y j s m = iv_cv S y j s m
  | 0, _, _ => by rw [iv_cv, iv_cv]
  | j + 1, s, m => by rw [iv_cv, iv_cv, h, iv_cv_c h j]
def iv_cw (S : mm_S) (y s : Int) : Option Int := iv_cv S y 12 s ((0 : Nat) : Int)
theorem iv_cw_c {T : mm_S} {y : Int} (h : ∀ s, pp_nx T 3 s = pp_nx S 3 s) (s : Int) : iv_cw T y s = iv_cw S y s := by
  unfold iv_cw
  exact iv_cv_c h _ _ _
theorem iv_cw_neg {y : Int} (hy : y < -1) (s : Int) : iv_cw S y s = none := by
  unfold iv_cw
  exact iv_cv_neg hy _ _ _ (by omega)
theorem iv_cwC (h : iv S k) (hd : 2 ≤ d) {y : Int} (hy : iv_n y) (c : mm_N) (x1 : Int32) {ps : Int → Nat} (hB : pp_RB (pp_Wf (S.I 3 10) (S.A (3 + 3))) ps) (n : Nat) (hn : 12 < n) (s : Int) (p : 0 ≤ s ∧ s < S.I 3 10) : mm_r128_13 E (mm_ev E d) n (mm_ad B 0) x1 (mm_i y) (mm_i s) (mm_i 0) (mm_i 0) (mm_hp B S c) = iv_cR B S c (iv_cw S y s) := by
  have l := l_chainC (E := E) (d := d) (B := B) h hd hy c x1 hB 12 n 0 s (by omega) hn (Or.inr p)
  unfold iv_cw
  exact l
theorem iv_cwM (h : iv S k) (hd : 16 ≤ d) {y : Int} (hy : iv_n y) (c : mm_N) (x1 : Int32) {ps : Int → Nat} (hB : pp_RB (pp_Wf (S.I 3 10) (S.A (3 + 3))) ps) (v : Int) (n : Nat) (hn : 12 < n) (s : Int) (p : 0 ≤ s ∧ s < S.I 3 10) : mm_r224_29 E (mm_ev E d) n (mm_ad B 101) x1 (mm_i y) (mm_i 0) (mm_i s) (mm_hp B (S.sI 101 0 v) c) = match iv_cw S y s with | some w => mm_oI w (mm_hp B (S.sI 101 0 v) c) | none => mm_oI 0 (mm_hp B (S.sI 101 0 1) c) := by
  have l := l_chainM (E := E) (d := d) (B := B) h hd hy c x1 hB v 12 n 0 s (by omega) hn (Or.inr ⟨p, hB.1 s⟩)
  unfold iv_cw
  exact l
theorem i_chain (h : iv S k) (hd : 17 ≤ d) {s y : Int} (hs : iv_n s) (hy : iv_n y) : iv_ok E B d S k 128 [.ref (mm_ad B 0), .int (mm_i s), .int (mm_i y)] 224 [.ref (mm_ad B 101), .int (mm_i s), .int (mm_i y)] iv_c1 := by
  have hn := iv_nn h
  have y1 := hy.1
  have y2 := hy.2
  obtain ⟨ps, hB⟩ := pp_NT_RB h.2.1.2.2
  have cC : ∀ c, mm_ev E d 128 [.ref (mm_ad B 0), .int (mm_i s), .int (mm_i y)] (mm_hp B S c) = if 0 ≤ s ∧ s < S.I 3 10 then iv_cR B S c (iv_cw S y s) else pp_th 0 S c B := fun c => mm_v128 (by omega) (fun F e hF he => by
    rw [mm_e128_0, iv_CS h (by omega) hs]
    by_cases p : 0 ≤ s ∧ s < S.I 3 10
    · rw [if_pos p, if_pos p]
      exact iv_cwC h (by omega) hy c (mm_i s) hB (F + 99) (by omega) s p
    · rw [if_neg p, if_neg p])
  have cM : ∀ T c, iv T k → T.I 3 10 = S.I 3 10 → (pp_RB (pp_Wf (T.I 3 10) (T.A (3 + 3))) ps) → mm_ev E d 224 [.ref (mm_ad B 101), .int (mm_i s), .int (mm_i y)] (mm_hp B T c) = if 0 ≤ s ∧ s < T.I 3 10 then (match iv_cw T y s with | some w => mm_oI w (mm_hp B (T.sI 101 0 0) c) | none => mm_oI 0 (mm_hp B (T.sI 101 0 1) c)) else mm_oI 0 (mm_hp B (T.sI 101 0 1) c) := fun T c hT e3 hB => mm_v224 (by omega) (fun F e hF he => by
    rw [mm_e224_0]
    simp (disch := omega) only [mm_ptM]
    rw [iv_MS hT (by omega) hs]
    by_cases p : 0 ≤ s ∧ s < T.I 3 10
    · rw [if_pos p, if_pos p]
      simp (disch := omega) only [mm_br_le]
      by_cases q : -1 ≤ y
      · rw [if_pos q]
        exact iv_cwM hT (by omega) hy c (mm_i s) hB 0 (F + 99) (by omega) s p
      · rw [if_neg q, iv_cw_neg (by omega), iv_MF (by omega)]
    · rw [if_neg p, if_neg p, iv_MF (by omega)])
  by_cases p : 0 ≤ s ∧ s < S.I 3 10
  · have ee : ∀ o, iv_cw (S.sL 123 o) y s = iv_cw S y s := fun o => iv_cw_c (S := S) (T := S.sL 123 o) (fun _ => rfl) s
    cases hv : iv_cw S y s with
    | some v =>
      refine iv_same h v (fun c => by rw [cC, if_pos p, hv]; rfl) (fun o c => ?_)
      have g := cM (S.sL 123 o) c (iv_sL h o) rfl hB
      rw [ee, hv] at g
      exact g.trans (if_pos p)
    | none =>
      refine iv_thr h 0 (by decide) (fun c => by rw [cC, if_pos p, hv]; rfl) (fun c => ⟨0, ?_⟩)
      rw [cM S c h rfl hB, if_pos p, hv]
      rfl
  · exact iv_thr h 0 (by decide) (fun c => by rw [cC, if_neg p]) (fun c => ⟨0, by rw [cM S c h rfl hB, if_neg p]; rfl⟩)
end
