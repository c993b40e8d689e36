/-! ROWS OF PAIRS: a high number and a low one, together one -/
section
variable {E : mm_E} {d B : Nat} {S : mm_S} {c : mm_N} {a : Nat}
theorem pp_brT (X Y : mm_R) : mm_br True X Y = X := mm_br_t trivial
theorem pp_br10 (X Y : mm_R) : mm_br (mm_i 1 = mm_i 0) X Y = Y := by
  rw [mm_br_eq (by omega) (by omega) (by omega) (by omega), if_neg (by omega)]
theorem pp_u_id (f : Int → Int) (i : Int) : mm_u f i (f i) = f := by
  funext j
  unfold mm_u
  by_cases h : j = i
  · rw [if_pos h, h]
  · rw [if_neg h]
theorem pp_sL_id (S : mm_S) (b : Nat) : S.sL b (S.L b) = S := by
  apply pp_ext
  · intros; rfl
  · intros; rfl
  · intros; rfl
  · intro x
    show (if x = b then S.2.2 b else S.2.2 x) = S.2.2 x
    by_cases h : x = b
    · rw [if_pos h, h]
    · rw [if_neg h]
/-- points of the rows that stand fast, and of a stage's row -/
theorem pp_pq : (∀ (B : Nat) (S : mm_S) (c : mm_N) (κ : Nat → mm_R), mm_gR (mm_hp B S c) (mm_ad B 42) 5 0 κ = κ (mm_ad B 43))
    ∧ (∀ (B : Nat) (S : mm_S) (c : mm_N) (κ : Nat → mm_R), mm_gR (mm_hp B S c) (mm_ad B 42) 5 1 κ = κ (mm_ad B 44))
    ∧ (∀ (B : Nat) (S : mm_S) (c : mm_N) (i : Int) (κ : Int64 → mm_R), 0 ≤ i → i < 120 → mm_rJ (mm_hp B S c) (mm_ad B 43) (mm_i i) κ = κ (mm_j (S.L 43 i)))
    ∧ (∀ (B : Nat) (S : mm_S) (c : mm_N) (i v : Int) (κ : mm_H → mm_R), 0 ≤ i → i < 120 → mm_wJ (mm_hp B S c) (mm_ad B 43) (mm_i i) (mm_j v) κ = κ (mm_hp B (S.sL 43 (mm_u (S.L 43) i v)) c))
    ∧ (∀ (B : Nat) (S : mm_S) (c : mm_N) (i : Int) (κ : Int64 → mm_R), 0 ≤ i → i < 120 → mm_rJ (mm_hp B S c) (mm_ad B 44) (mm_i i) κ = κ (mm_j (S.L 44 i)))
    ∧ (∀ (B : Nat) (S : mm_S) (c : mm_N) (i v : Int) (κ : mm_H → mm_R), 0 ≤ i → i < 120 → mm_wJ (mm_hp B S c) (mm_ad B 44) (mm_i i) (mm_j v) κ = κ (mm_hp B (S.sL 44 (mm_u (S.L 44) i v)) c))
    ∧ (∀ (B : Nat) (S : mm_S) (c : mm_N) (κ : Nat → mm_R), mm_gR (mm_hp B S c) (mm_ad B 45) 5 0 κ = κ (mm_ad B 46))
    ∧ (∀ (B : Nat) (S : mm_S) (c : mm_N) (κ : Nat → mm_R), mm_gR (mm_hp B S c) (mm_ad B 45) 5 1 κ = κ (mm_ad B 47))
    ∧ (∀ (B : Nat) (S : mm_S) (c : mm_N) (i : Int) (κ : Int64 → mm_R), 0 ≤ i → i < 120 → mm_rJ (mm_hp B S c) (mm_ad B 46) (mm_i i) κ = κ (mm_j (S.L 46 i)))
    ∧ (∀ (B : Nat) (S : mm_S) (c : mm_N) (i v : Int) (κ : mm_H → mm_R), 0 ≤ i → i < 120 → mm_wJ (mm_hp B S c) (mm_ad B 46) (mm_i i) (mm_j v) κ = κ (mm_hp B (S.sL 46 (mm_u (S.L 46) i v)) c))
    ∧ (∀ (B : Nat) (S : mm_S) (c : mm_N) (i : Int) (κ : Int64 → mm_R), 0 ≤ i → i < 120 → mm_rJ (mm_hp B S c) (mm_ad B 47) (mm_i i) κ = κ (mm_j (S.L 47 i)))
    ∧ (∀ (B : Nat) (S : mm_S) (c : mm_N) (i v : Int) (κ : mm_H → mm_R), 0 ≤ i → i < 120 → mm_wJ (mm_hp B S c) (mm_ad B 47) (mm_i i) (mm_j v) κ = κ (mm_hp B (S.sL 47 (mm_u (S.L 47) i v)) c))
    ∧ (∀ (B : Nat) (S : mm_S) (c : mm_N) (κ : Nat → mm_R), mm_gR (mm_hp B S c) (mm_ad B 48) 5 0 κ = κ (mm_ad B 49))
    ∧ (∀ (B : Nat) (S : mm_S) (c : mm_N) (κ : Nat → mm_R), mm_gR (mm_hp B S c) (mm_ad B 48) 5 1 κ = κ (mm_ad B 50))
    ∧ (∀ (B : Nat) (S : mm_S) (c : mm_N) (i : Int) (κ : Int64 → mm_R), 0 ≤ i → i < 120 → mm_rJ (mm_hp B S c) (mm_ad B 49) (mm_i i) κ = κ (mm_j (S.L 49 i)))
    ∧ (∀ (B : Nat) (S : mm_S) (c : mm_N) (i v : Int) (κ : mm_H → mm_R), 0 ≤ i → i < 120 → mm_wJ (mm_hp B S c) (mm_ad B 49) (mm_i i) (mm_j v) κ = κ (mm_hp B (S.sL 49 (mm_u (S.L 49) i v)) c))
    ∧ (∀ (B : Nat) (S : mm_S) (c : mm_N) (i : Int) (κ : Int64 → mm_R), 0 ≤ i → i < 120 → mm_rJ (mm_hp B S c) (mm_ad B 50) (mm_i i) κ = κ (mm_j (S.L 50 i)))
    ∧ (∀ (B : Nat) (S : mm_S) (c : mm_N) (i v : Int) (κ : mm_H → mm_R), 0 ≤ i → i < 120 → mm_wJ (mm_hp B S c) (mm_ad B 50) (mm_i i) (mm_j v) κ = κ (mm_hp B (S.sL 50 (mm_u (S.L 50) i v)) c))
    ∧ (∀ (B : Nat) (S : mm_S) (c : mm_N) (κ : Nat → mm_R), mm_gR (mm_hp B S c) (mm_ad B 51) 5 0 κ = κ (mm_ad B 52))
    ∧ (∀ (B : Nat) (S : mm_S) (c : mm_N) (κ : Nat → mm_R), mm_gR (mm_hp B S c) (mm_ad B 51) 5 1 κ = κ (mm_ad B 53))
    ∧ (∀ (B : Nat) (S : mm_S) (c : mm_N) (i : Int) (κ : Int64 → mm_R), 0 ≤ i → i < 1 → mm_rJ (mm_hp B S c) (mm_ad B 52) (mm_i i) κ = κ (mm_j (S.L 52 i)))
    ∧ (∀ (B : Nat) (S : mm_S) (c : mm_N) (i v : Int) (κ : mm_H → mm_R), 0 ≤ i → i < 1 → mm_wJ (mm_hp B S c) (mm_ad B 52) (mm_i i) (mm_j v) κ = κ (mm_hp B (S.sL 52 (mm_u (S.L 52) i v)) c))
    ∧ (∀ (B : Nat) (S : mm_S) (c : mm_N) (i : Int) (κ : Int64 → mm_R), 0 ≤ i → i < 1 → mm_rJ (mm_hp B S c) (mm_ad B 53) (mm_i i) κ = κ (mm_j (S.L 53 i)))
    ∧ (∀ (B : Nat) (S : mm_S) (c : mm_N) (i v : Int) (κ : mm_H → mm_R), 0 ≤ i → i < 1 → mm_wJ (mm_hp B S c) (mm_ad B 53) (mm_i i) (mm_j v) κ = κ (mm_hp B (S.sL 53 (mm_u (S.L 53) i v)) c))
    ∧ (∀ (B : Nat) (S : mm_S) (c : mm_N) (k : Nat) (κ : Nat → mm_R), k < 12 → mm_gR (mm_hp B S c) (mm_ad B (57 + 3 * k)) 5 0 κ = κ (mm_ad B (58 + 3 * k)))
    ∧ (∀ (B : Nat) (S : mm_S) (c : mm_N) (k : Nat) (κ : Nat → mm_R), k < 12 → mm_gR (mm_hp B S c) (mm_ad B (57 + 3 * k)) 5 1 κ = κ (mm_ad B (59 + 3 * k)))
    ∧ (∀ (B : Nat) (S : mm_S) (c : mm_N) (k : Nat) (i : Int) (κ : Int64 → mm_R), k < 12 → 0 ≤ i → i < 120 → mm_rJ (mm_hp B S c) (mm_ad B (58 + 3 * k)) (mm_i i) κ = κ (mm_j (S.L (58 + 3 * k) i)))
    ∧ (∀ (B : Nat) (S : mm_S) (c : mm_N) (k : Nat) (i v : Int) (κ : mm_H → mm_R), k < 12 → 0 ≤ i → i < 120 → mm_wJ (mm_hp B S c) (mm_ad B (58 + 3 * k)) (mm_i i) (mm_j v) κ = κ (mm_hp B (S.sL (58 + 3 * k) (mm_u (S.L (58 + 3 * k)) i v)) c))
    ∧ (∀ (B : Nat) (S : mm_S) (c : mm_N) (k : Nat) (i : Int) (κ : Int64 → mm_R), k < 12 → 0 ≤ i → i < 120 → mm_rJ (mm_hp B S c) (mm_ad B (59 + 3 * k)) (mm_i i) κ = κ (mm_j (S.L (59 + 3 * k) i)))
    ∧ (∀ (B : Nat) (S : mm_S) (c : mm_N) (k : Nat) (i v : Int) (κ : mm_H → mm_R), k < 12 → 0 ≤ i → i < 120 → mm_wJ (mm_hp B S c) (mm_ad B (59 + 3 * k)) (mm_i i) (mm_j v) κ = κ (mm_hp B (S.sL (59 + 3 * k) (mm_u (S.L (59 + 3 * k)) i v)) c)) :=
  ⟨fun B S c κ => mm_pgR rfl rfl κ,
   fun B S c κ => mm_pgR rfl rfl κ,
   fun B S c i κ h1 h2 => mm_prJ rfl (by decide) h1 h2 κ,
   fun B S c i v κ h1 h2 => mm_pwJ rfl (by decide) h1 h2 κ,
   fun B S c i κ h1 h2 => mm_prJ rfl (by decide) h1 h2 κ,
   fun B S c i v κ h1 h2 => mm_pwJ rfl (by decide) h1 h2 κ,
   fun B S c κ => mm_pgR rfl rfl κ,
   fun B S c κ => mm_pgR rfl rfl κ,
   fun B S c i κ h1 h2 => mm_prJ rfl (by decide) h1 h2 κ,
   fun B S c i v κ h1 h2 => mm_pwJ rfl (by decide) h1 h2 κ,
   fun B S c i κ h1 h2 => mm_prJ rfl (by decide) h1 h2 κ,
   fun B S c i v κ h1 h2 => mm_pwJ rfl (by decide) h1 h2 κ,
   fun B S c κ => mm_pgR rfl rfl κ,
   fun B S c κ => mm_pgR rfl rfl κ,
   fun B S c i κ h1 h2 => mm_prJ rfl (by decide) h1 h2 κ,
   fun B S c i v κ h1 h2 => mm_pwJ rfl (by decide) h1 h2 κ,
   fun B S c i κ h1 h2 => mm_prJ rfl (by decide) h1 h2 κ,
   fun B S c i v κ h1 h2 => mm_pwJ rfl (by decide) h1 h2 κ,
   fun B S c κ => mm_pgR rfl rfl κ,
   fun B S c κ => mm_pgR rfl rfl κ,
   fun B S c i κ h1 h2 => mm_prJ rfl (by decide) h1 h2 κ,
   fun B S c i v κ h1 h2 => mm_pwJ rfl (by decide) h1 h2 κ,
   fun B S c i κ h1 h2 => mm_prJ rfl (by decide) h1 h2 κ,
   fun B S c i v κ h1 h2 => mm_pwJ rfl (by decide) h1 h2 κ,
   fun B S c k κ h => (mm_pgR (o := 58 + 3 * k) (mm_shR (a := 57 + 3 * k) (by omega)) (by rw [show 57 + 3 * k + 1 = 58 + 3 * k by omega]; rfl) κ),
   fun B S c k κ h => (mm_pgR (o := 59 + 3 * k) (mm_shR (a := 57 + 3 * k) (by omega)) (by rw [show 57 + 3 * k + 2 = 59 + 3 * k by omega]; rfl) κ),
   fun B S c k i κ h h1 h2 => mm_prJ (by rw [show 58 + 3 * k = 57 + 3 * k + 1 by omega]; exact (mm_shRR (a := 57 + 3 * k) (by omega)).1) (by decide) h1 h2 κ,
   fun B S c k i v κ h h1 h2 => mm_pwJ (by rw [show 58 + 3 * k = 57 + 3 * k + 1 by omega]; exact (mm_shRR (a := 57 + 3 * k) (by omega)).1) (by decide) h1 h2 κ,
   fun B S c k i κ h h1 h2 => mm_prJ (by rw [show 59 + 3 * k = 57 + 3 * k + 2 by omega]; exact (mm_shRR (a := 57 + 3 * k) (by omega)).2) (by decide) h1 h2 κ,
   fun B S c k i v κ h h1 h2 => mm_pwJ (by rw [show 59 + 3 * k = 57 + 3 * k + 2 by omega]; exact (mm_shRR (a := 57 + 3 * k) (by omega)).2) (by decide) h1 h2 κ⟩
/-- a pair is put -/
theorem c_put {a1 a2 : Nat} {i h l : Int} (hd : 1 ≤ d) (e1 : a1 = a + 1) (e2 : a2 = a + 2) (ha : 42 ≤ a ∧ a ≤ 90 ∧ a % 3 = 0 ∧ a ≠ 51 ∧ a ≠ 54) (i0 : 0 ≤ i) (i1 : i < 120) (h0 : 0 ≤ h) (h1 : h ≤ 8 * 288230376151711744) (l0 : 0 ≤ l) (l1 : l ≤ 2305843009213693952) : ∃ h' l', (0 ≤ h' ∧ h' ≤ 288230376151711744 ∧ 0 ≤ l' ∧ l' ≤ l ∧ h' * 18446744073709551616 + l' = min 5316911983139663491615228241121378304 (h * 18446744073709551616 + l)) ∧ mm_ev E d 76 [.ref (mm_ad B a), .int (mm_i i), .long (mm_j h), .long (mm_j l)] (mm_hp B S c) = mm_oV (mm_hp B ((S.sL a1 (mm_u (S.L a1) i h')).sL a2 (mm_u (S.L a2) i l')) c) := by
  subst e1
  subst e2
  by_cases q : h < 288230376151711744
  · refine ⟨h, l, ⟨by omega, by omega, by omega, by omega, by omega⟩, mm_v76 (by omega) (by omega) (fun F e hF he => ?_)⟩
    rw [mm_e76_0, mm_j_cmp (by omega) (by omega) (by omega) (by omega), mm_cm_ge, if_pos q]
    simp (disch := omega) only [mm_ptR, pp_br10, mm_e76_32, mm_gL_ne]
  · refine ⟨288230376151711744, 0, ⟨by omega, by omega, by omega, by omega, by omega⟩, mm_v76 (by omega) (by omega) (fun F e hF he => ?_)⟩
    rw [mm_e76_0, mm_j_cmp (by omega) (by omega) (by omega) (by omega), mm_cm_ge, if_neg q]
    simp (disch := omega) only [mm_ptR, pp_brT, mm_e76_32, mm_gL_ne]
theorem c_putP {h l : Int} (hd : 1 ≤ d) (h0 : 0 ≤ h) (h1 : h ≤ 8 * 288230376151711744) (l0 : 0 ≤ l) (l1 : l ≤ 2305843009213693952) : ∃ h' l', (0 ≤ h' ∧ h' ≤ 288230376151711744 ∧ 0 ≤ l' ∧ l' ≤ l ∧ h' * 18446744073709551616 + l' = min 5316911983139663491615228241121378304 (h * 18446744073709551616 + l)) ∧ mm_ev E d 76 [.ref (mm_ad B 51), .int (mm_i 0), .long (mm_j h), .long (mm_j l)] (mm_hp B S c) = mm_oV (mm_hp B ((S.sL 52 (mm_u (S.L 52) 0 h')).sL 53 (mm_u (S.L 53) 0 l')) c) := by
  by_cases q : h < 288230376151711744
  · refine ⟨h, l, ⟨by omega, by omega, by omega, by omega, by omega⟩, mm_v76 (by omega) (by omega) (fun F e hF he => ?_)⟩
    rw [mm_e76_0, mm_j_cmp (by omega) (by omega) (by omega) (by omega), mm_cm_ge, if_pos q]
    simp (disch := omega) only [pp_pq, pp_br10, mm_e76_32, mm_gL_ne]
  · refine ⟨288230376151711744, 0, ⟨by omega, by omega, by omega, by omega, by omega⟩, mm_v76 (by omega) (by omega) (fun F e hF he => ?_)⟩
    rw [mm_e76_0, mm_j_cmp (by omega) (by omega) (by omega) (by omega), mm_cm_ge, if_neg q]
    simp (disch := omega) only [pp_pq, pp_brT, mm_e76_32, mm_gL_ne]
/-- a pair, if it is less -/
theorem c_lower {a1 a2 : Nat} {i h l : Int} (hd : 1 ≤ d) (e1 : a1 = a + 1) (e2 : a2 = a + 2) (ha : 42 ≤ a ∧ a ≤ 90 ∧ a % 3 = 0 ∧ a ≠ 51 ∧ a ≠ 54) (i0 : 0 ≤ i) (i1 : i < 120) (h0 : 0 ≤ h) (h1 : h ≤ 8 * 288230376151711744) (l0 : 0 ≤ l) (l1 : l ≤ 2305843009213693952) (r1 : 0 ≤ S.L a1 i ∧ S.L a1 i ≤ 288230376151711744) (r2 : 0 ≤ S.L a2 i ∧ S.L a2 i ≤ 2305843009213693952) : ∃ h' l', (0 ≤ h' ∧ h' ≤ 288230376151711744 ∧ 0 ≤ l' ∧ l' ≤ max l (S.L a2 i) ∧ h' * 18446744073709551616 + l' = min (S.L a1 i * 18446744073709551616 + S.L a2 i) (h * 18446744073709551616 + l)) ∧ mm_ev E d 77 [.ref (mm_ad B a), .int (mm_i i), .long (mm_j h), .long (mm_j l)] (mm_hp B S c) = mm_oV (mm_hp B ((S.sL a1 (mm_u (S.L a1) i h')).sL a2 (mm_u (S.L a2) i l')) c) := by
  subst e1
  subst e2
  have no : S = (S.sL (a + 1) (mm_u (S.L (a + 1)) i (S.L (a + 1) i))).sL (a + 2) (mm_u (S.L (a + 2)) i (S.L (a + 2) i)) := by
    rw [pp_u_id, pp_u_id, pp_sL_id, pp_sL_id]
  by_cases q : h < S.L (a + 1) i
  · refine ⟨h, l, ⟨by omega, by omega, by omega, by omega, by omega⟩, mm_v77 (by omega) (by omega) (fun F e hF he => ?_)⟩
    simp (disch := omega) only [mm_e77_0, mm_ptR, mm_j_cmp, mm_cm_lt]
    rw [if_pos q]
    simp (disch := omega) only [mm_e77_34, mm_ptR, mm_gL_ne]
  · by_cases q2 : h = S.L (a + 1) i
    · by_cases q3 : l < S.L (a + 2) i
      · refine ⟨h, l, ⟨by omega, by omega, by omega, by omega, by omega⟩, mm_v77 (by omega) (by omega) (fun F e hF he => ?_)⟩
        simp (disch := omega) only [mm_e77_0, mm_ptR, mm_j_cmp, mm_cm_lt, mm_cm_eq, mm_cm_ge]
        rw [if_neg q, if_pos q2, if_pos q3]
        simp (disch := omega) only [mm_e77_34, mm_ptR, mm_gL_ne]
      · refine ⟨S.L (a + 1) i, S.L (a + 2) i, ⟨by omega, by omega, by omega, by omega, by omega⟩, mm_v77 (by omega) (by omega) (fun F e hF he => ?_)⟩
        simp (disch := omega) only [mm_e77_0, mm_ptR, mm_j_cmp, mm_cm_lt, mm_cm_eq, mm_cm_ge]
        rw [if_neg q, if_pos q2, if_neg q3, ← no]
    · refine ⟨S.L (a + 1) i, S.L (a + 2) i, ⟨by omega, by omega, by omega, by omega, by omega⟩, mm_v77 (by omega) (by omega) (fun F e hF he => ?_)⟩
      simp (disch := omega) only [mm_e77_0, mm_ptR, mm_j_cmp, mm_cm_lt, mm_cm_eq, mm_cm_ge]
      rw [if_neg q, if_neg q2, ← no]
theorem c_lowerP {h l : Int} (hd : 1 ≤ d) (h0 : 0 ≤ h) (h1 : h ≤ 8 * 288230376151711744) (l0 : 0 ≤ l) (l1 : l ≤ 2305843009213693952) (r1 : 0 ≤ S.L 52 0 ∧ S.L 52 0 ≤ 288230376151711744) (r2 : 0 ≤ S.L 53 0 ∧ S.L 53 0 ≤ 2305843009213693952) : ∃ h' l', (0 ≤ h' ∧ h' ≤ 288230376151711744 ∧ 0 ≤ l' ∧ l' ≤ max l (S.L 53 0) ∧ h' * 18446744073709551616 + l' = min (S.L 52 0 * 18446744073709551616 + S.L 53 0) (h * 18446744073709551616 + l)) ∧ mm_ev E d 77 [.ref (mm_ad B 51), .int (mm_i 0), .long (mm_j h), .long (mm_j l)] (mm_hp B S c) = mm_oV (mm_hp B ((S.sL 52 (mm_u (S.L 52) 0 h')).sL 53 (mm_u (S.L 53) 0 l')) c) := by
  have no : S = (S.sL 52 (mm_u (S.L 52) 0 (S.L 52 0))).sL 53 (mm_u (S.L 53) 0 (S.L 53 0)) := by
    rw [pp_u_id, pp_u_id, pp_sL_id, pp_sL_id]
  by_cases q : h < S.L 52 0
  · refine ⟨h, l, ⟨by omega, by omega, by omega, by omega, by omega⟩, mm_v77 (by omega) (by omega) (fun F e hF he => ?_)⟩
    simp (disch := omega) only [mm_e77_0, pp_pq, mm_j_cmp, mm_cm_lt]
    rw [if_pos q]
    simp (disch := omega) only [mm_e77_34, pp_pq, mm_gL_ne]
  · by_cases q2 : h = S.L 52 0
    · by_cases q3 : l < S.L 53 0
      · refine ⟨h, l, ⟨by omega, by omega, by omega, by omega, by omega⟩, mm_v77 (by omega) (by omega) (fun F e hF he => ?_)⟩
        simp (disch := omega) only [mm_e77_0, pp_pq, mm_j_cmp, mm_cm_lt, mm_cm_eq, mm_cm_ge]
        rw [if_neg q, if_pos q2, if_pos q3]
        simp (disch := omega) only [mm_e77_34, pp_pq, mm_gL_ne]
      · refine ⟨S.L 52 0, S.L 53 0, ⟨by omega, by omega, by omega, by omega, by omega⟩, mm_v77 (by omega) (by omega) (fun F e hF he => ?_)⟩
        simp (disch := omega) only [mm_e77_0, pp_pq, mm_j_cmp, mm_cm_lt, mm_cm_eq, mm_cm_ge]
        rw [if_neg q, if_pos q2, if_neg q3, ← no]
    · refine ⟨S.L 52 0, S.L 53 0, ⟨by omega, by omega, by omega, by omega, by omega⟩, mm_v77 (by omega) (by omega) (fun F e hF he => ?_)⟩
      simp (disch := omega) only [mm_e77_0, pp_pq, mm_j_cmp, mm_cm_lt, mm_cm_eq, mm_cm_ge]
      rw [if_neg q, if_neg q2, ← no]
/-- rows of pairs that tell v on 0 to m, the low ones no more than b -/
def pp_vr (f g : Int → Int) (m b : Int) (v : Int → Int) : Prop := ∀ i : Int, 0 ≤ i → i ≤ m → 0 ≤ f i ∧ f i ≤ 288230376151711744 ∧ 0 ≤ g i ∧ g i ≤ b ∧ f i * 18446744073709551616 + g i = v i
theorem pp_vr_u {f g : Int → Int} {m b b' : Int} {v : Int → Int} {i h l w : Int} (hv : pp_vr f g m b v) (hb : b ≤ b') (hh : 0 ≤ h ∧ h ≤ 288230376151711744 ∧ 0 ≤ l ∧ l ≤ b' ∧ h * 18446744073709551616 + l = w) : pp_vr (mm_u f i h) (mm_u g i l) m b' (mm_u v i w) := by
  intro j j1 j2
  by_cases e : j = i
  · subst e
    simp only [mm_u_eq]
    exact hh
  · simp only [mm_u_ne e]
    have := hv j j1 j2
    omega
end
