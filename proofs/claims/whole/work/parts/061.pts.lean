/-! POINTS: what the cells answer (by program: wip/whole/genpure.py) -/
theorem mm_ptP : (∀ (B : Nat) (S : mm_S) (c : mm_N) (κ : Nat → mm_R), mm_gR (mm_hp B S c) (mm_ad B 0) 8 0 κ = κ (mm_ad B 1))
    ∧ (∀ (B : Nat) (S : mm_S) (c : mm_N) (κ : Nat → mm_R), mm_gR (mm_hp B S c) (mm_ad B 0) 8 1 κ = κ (mm_ad B 3))
    ∧ (∀ (B : Nat) (S : mm_S) (c : mm_N) (κ : Nat → mm_R), mm_gR (mm_hp B S c) (mm_ad B 0) 8 2 κ = κ (mm_ad B 14))
    ∧ (∀ (B : Nat) (S : mm_S) (c : mm_N) (κ : Nat → mm_R), mm_gR (mm_hp B S c) (mm_ad B 0) 8 3 κ = κ (mm_ad B 25))
    ∧ (∀ (B : Nat) (S : mm_S) (c : mm_N) (κ : Nat → mm_R), mm_gR (mm_hp B S c) (mm_ad B 0) 8 4 κ = κ (mm_ad B 36))
    ∧ (∀ (B : Nat) (S : mm_S) (c : mm_N) (κ : Nat → mm_R), mm_gR (mm_hp B S c) (mm_ad B 0) 8 5 κ = κ (mm_ad B 40))
    ∧ (∀ (B : Nat) (S : mm_S) (c : mm_N) (κ : Nat → mm_R), mm_gR (mm_hp B S c) (mm_ad B 0) 8 6 κ = κ (mm_ad B 93))
    ∧ (∀ (B : Nat) (S : mm_S) (c : mm_N) (κ : Nat → mm_R), mm_gR (mm_hp B S c) (mm_ad B 0) 8 7 κ = κ (mm_ad B 96))
    ∧ (∀ (B : Nat) (S : mm_S) (c : mm_N) (κ : Nat → mm_R), mm_gR (mm_hp B S c) (mm_ad B 0) 8 8 κ = κ (mm_ad B 97))
    ∧ (∀ (B : Nat) (S : mm_S) (c : mm_N) (κ : Nat → mm_R), mm_gR (mm_hp B S c) (mm_ad B 0) 8 9 κ = κ (mm_ad B 100))
    ∧ (∀ (B : Nat) (S : mm_S) (c : mm_N) (κ : Int32 → mm_R), mm_gI (mm_hp B S c) (mm_ad B 0) 8 10 κ = κ (mm_i (S.I 0 10)))
    ∧ (∀ (B : Nat) (S : mm_S) (c : mm_N) (v : Int) (κ : mm_H → mm_R), mm_pF (mm_hp B S c) (mm_ad B 0) 8 10 (.int (mm_i v)) κ = κ (mm_hp B (S.sI 0 10 v) c))
    ∧ (∀ (B : Nat) (S : mm_S) (c : mm_N) (κ : Int32 → mm_R), mm_gI (mm_hp B S c) (mm_ad B 0) 8 11 κ = κ (mm_i (S.I 0 11)))
    ∧ (∀ (B : Nat) (S : mm_S) (c : mm_N) (v : Int) (κ : mm_H → mm_R), mm_pF (mm_hp B S c) (mm_ad B 0) 8 11 (.int (mm_i v)) κ = κ (mm_hp B (S.sI 0 11 v) c))
    ∧ (∀ (B : Nat) (S : mm_S) (c : mm_N) (κ : Int32 → mm_R), mm_gI (mm_hp B S c) (mm_ad B 0) 8 12 κ = κ (mm_i (S.I 0 12)))
    ∧ (∀ (B : Nat) (S : mm_S) (c : mm_N) (v : Int) (κ : mm_H → mm_R), mm_pF (mm_hp B S c) (mm_ad B 0) 8 12 (.int (mm_i v)) κ = κ (mm_hp B (S.sI 0 12 v) c))
    ∧ (∀ (B : Nat) (S : mm_S) (c : mm_N) (κ : Int32 → mm_R), mm_gI (mm_hp B S c) (mm_ad B 0) 8 13 κ = κ (mm_i (S.I 0 13)))
    ∧ (∀ (B : Nat) (S : mm_S) (c : mm_N) (v : Int) (κ : mm_H → mm_R), mm_pF (mm_hp B S c) (mm_ad B 0) 8 13 (.int (mm_i v)) κ = κ (mm_hp B (S.sI 0 13 v) c))
    ∧ (∀ (E : mm_E) (B : Nat) (S : mm_S) (c : mm_N) (i : Int) (κ : Int32 → mm_R), 0 ≤ i → i < 21 → mm_rI E (mm_hp B S c) (mm_ad B 100) (mm_i i) κ = κ (mm_i (S.A 100 i)))
    ∧ (∀ (B : Nat) (S : mm_S) (c : mm_N) (i v : Int) (κ : mm_H → mm_R), 0 ≤ i → i < 21 → mm_wI (mm_hp B S c) (mm_ad B 100) (mm_i i) (mm_i v) κ = κ (mm_hp B (S.sA 100 (mm_u (S.A 100) i v)) c))
    ∧ (∀ (E : mm_E) (B : Nat) (S : mm_S) (c : mm_N) (κ : Int32 → mm_R), mm_ln E (mm_hp B S c) (mm_ad B 100) κ = κ (mm_i 21)) := by
  refine ⟨?_, ?_, ?_, ?_, ?_, ?_, ?_, ?_, ?_, ?_, ?_, ?_, ?_, ?_, ?_, ?_, ?_, ?_, ?_, ?_, ?_⟩
  · exact fun B S c κ => mm_pgR rfl rfl κ
  · exact fun B S c κ => mm_pgR rfl rfl κ
  · exact fun B S c κ => mm_pgR rfl rfl κ
  · exact fun B S c κ => mm_pgR rfl rfl κ
  · exact fun B S c κ => mm_pgR rfl rfl κ
  · exact fun B S c κ => mm_pgR rfl rfl κ
  · exact fun B S c κ => mm_pgR rfl rfl κ
  · exact fun B S c κ => mm_pgR rfl rfl κ
  · exact fun B S c κ => mm_pgR rfl rfl κ
  · exact fun B S c κ => mm_pgR rfl rfl κ
  · exact fun B S c κ => mm_pgI rfl rfl κ
  · exact fun B S c v κ => mm_ppI rfl rfl κ
  · exact fun B S c κ => mm_pgI rfl rfl κ
  · exact fun B S c v κ => mm_ppI rfl rfl κ
  · exact fun B S c κ => mm_pgI rfl rfl κ
  · exact fun B S c v κ => mm_ppI rfl rfl κ
  · exact fun B S c κ => mm_pgI rfl rfl κ
  · exact fun B S c v κ => mm_ppI rfl rfl κ
  · exact fun E B S c i κ h1 h2 => mm_prI rfl (by decide) h1 h2 κ
  · exact fun B S c i v κ h1 h2 => mm_pwI rfl (by decide) h1 h2 κ
  · exact fun E B S c κ => mm_plI rfl κ
theorem mm_ptT : (∀ (B : Nat) (S : mm_S) (c : mm_N) (κ : Nat → mm_R), mm_gR (mm_hp B S c) (mm_ad B 1) 7 0 κ = κ (mm_ad B 2))
    ∧ (∀ (B : Nat) (S : mm_S) (c : mm_N) (κ : Int32 → mm_R), mm_gI (mm_hp B S c) (mm_ad B 1) 7 1 κ = κ (mm_i (S.I 1 1)))
    ∧ (∀ (B : Nat) (S : mm_S) (c : mm_N) (v : Int) (κ : mm_H → mm_R), mm_pF (mm_hp B S c) (mm_ad B 1) 7 1 (.int (mm_i v)) κ = κ (mm_hp B (S.sI 1 1 v) c))
    ∧ (∀ (B : Nat) (S : mm_S) (c : mm_N) (κ : Int32 → mm_R), mm_gI (mm_hp B S c) (mm_ad B 1) 7 2 κ = κ (mm_i (S.I 1 2)))
    ∧ (∀ (B : Nat) (S : mm_S) (c : mm_N) (v : Int) (κ : mm_H → mm_R), mm_pF (mm_hp B S c) (mm_ad B 1) 7 2 (.int (mm_i v)) κ = κ (mm_hp B (S.sI 1 2 v) c))
    ∧ (∀ (B : Nat) (S : mm_S) (c : mm_N) (κ : Int32 → mm_R), mm_gI (mm_hp B S c) (mm_ad B 1) 7 3 κ = κ (mm_i (S.I 1 3)))
    ∧ (∀ (B : Nat) (S : mm_S) (c : mm_N) (v : Int) (κ : mm_H → mm_R), mm_pF (mm_hp B S c) (mm_ad B 1) 7 3 (.int (mm_i v)) κ = κ (mm_hp B (S.sI 1 3 v) c))
    ∧ (∀ (B : Nat) (S : mm_S) (c : mm_N) (κ : Int32 → mm_R), mm_gI (mm_hp B S c) (mm_ad B 1) 7 4 κ = κ (mm_i (S.I 1 4)))
    ∧ (∀ (B : Nat) (S : mm_S) (c : mm_N) (v : Int) (κ : mm_H → mm_R), mm_pF (mm_hp B S c) (mm_ad B 1) 7 4 (.int (mm_i v)) κ = κ (mm_hp B (S.sI 1 4 v) c))
    ∧ (∀ (B : Nat) (S : mm_S) (c : mm_N) (κ : Int32 → mm_R), mm_gI (mm_hp B S c) (mm_ad B 1) 7 5 κ = κ (mm_i (S.I 1 5)))
    ∧ (∀ (B : Nat) (S : mm_S) (c : mm_N) (v : Int) (κ : mm_H → mm_R), mm_pF (mm_hp B S c) (mm_ad B 1) 7 5 (.int (mm_i v)) κ = κ (mm_hp B (S.sI 1 5 v) c))
    ∧ (∀ (E : mm_E) (B : Nat) (S : mm_S) (c : mm_N) (i : Int) (κ : Int32 → mm_R), 0 ≤ i → i < 400 → mm_rI E (mm_hp B S c) (mm_ad B 2) (mm_i i) κ = κ (mm_i (S.A 2 i)))
    ∧ (∀ (B : Nat) (S : mm_S) (c : mm_N) (i v : Int) (κ : mm_H → mm_R), 0 ≤ i → i < 400 → mm_wI (mm_hp B S c) (mm_ad B 2) (mm_i i) (mm_i v) κ = κ (mm_hp B (S.sA 2 (mm_u (S.A 2) i v)) c))
    ∧ (∀ (E : mm_E) (B : Nat) (S : mm_S) (c : mm_N) (κ : Int32 → mm_R), mm_ln E (mm_hp B S c) (mm_ad B 2) κ = κ (mm_i 400)) := by
  refine ⟨?_, ?_, ?_, ?_, ?_, ?_, ?_, ?_, ?_, ?_, ?_, ?_, ?_, ?_⟩
  · exact fun B S c κ => mm_pgR rfl rfl κ
  · exact fun B S c κ => mm_pgI rfl rfl κ
  · exact fun B S c v κ => mm_ppI rfl rfl κ
  · exact fun B S c κ => mm_pgI rfl rfl κ
  · exact fun B S c v κ => mm_ppI rfl rfl κ
  · exact fun B S c κ => mm_pgI rfl rfl κ
  · exact fun B S c v κ => mm_ppI rfl rfl κ
  · exact fun B S c κ => mm_pgI rfl rfl κ
  · exact fun B S c v κ => mm_ppI rfl rfl κ
  · exact fun B S c κ => mm_pgI rfl rfl κ
  · exact fun B S c v κ => mm_ppI rfl rfl κ
  · exact fun E B S c i κ h1 h2 => mm_prI rfl (by decide) h1 h2 κ
  · exact fun B S c i v κ h1 h2 => mm_pwI rfl (by decide) h1 h2 κ
  · exact fun E B S c κ => mm_plI rfl κ
theorem mm_ptA : (∀ (B : Nat) (S : mm_S) (c : mm_N) (κ : Nat → mm_R), mm_gR (mm_hp B S c) (mm_ad B 36) 0 0 κ = κ (mm_ad B 37))
    ∧ (∀ (B : Nat) (S : mm_S) (c : mm_N) (κ : Nat → mm_R), mm_gR (mm_hp B S c) (mm_ad B 36) 0 1 κ = κ (mm_ad B 38))
    ∧ (∀ (B : Nat) (S : mm_S) (c : mm_N) (κ : Nat → mm_R), mm_gR (mm_hp B S c) (mm_ad B 36) 0 2 κ = κ (mm_ad B 39))
    ∧ (∀ (B : Nat) (S : mm_S) (c : mm_N) (κ : Int32 → mm_R), mm_gI (mm_hp B S c) (mm_ad B 36) 0 3 κ = κ (mm_i (S.I 36 3)))
    ∧ (∀ (B : Nat) (S : mm_S) (c : mm_N) (v : Int) (κ : mm_H → mm_R), mm_pF (mm_hp B S c) (mm_ad B 36) 0 3 (.int (mm_i v)) κ = κ (mm_hp B (S.sI 36 3 v) c))
    ∧ (∀ (B : Nat) (S : mm_S) (c : mm_N) (κ : Int32 → mm_R), mm_gI (mm_hp B S c) (mm_ad B 36) 0 4 κ = κ (mm_i (S.I 36 4)))
    ∧ (∀ (B : Nat) (S : mm_S) (c : mm_N) (v : Int) (κ : mm_H → mm_R), mm_pF (mm_hp B S c) (mm_ad B 36) 0 4 (.int (mm_i v)) κ = κ (mm_hp B (S.sI 36 4 v) c))
    ∧ (∀ (E : mm_E) (B : Nat) (S : mm_S) (c : mm_N) (i : Int) (κ : Int32 → mm_R), 0 ≤ i → i < 20 → mm_rI E (mm_hp B S c) (mm_ad B 37) (mm_i i) κ = κ (mm_i (S.A 37 i)))
    ∧ (∀ (B : Nat) (S : mm_S) (c : mm_N) (i v : Int) (κ : mm_H → mm_R), 0 ≤ i → i < 20 → mm_wI (mm_hp B S c) (mm_ad B 37) (mm_i i) (mm_i v) κ = κ (mm_hp B (S.sA 37 (mm_u (S.A 37) i v)) c))
    ∧ (∀ (E : mm_E) (B : Nat) (S : mm_S) (c : mm_N) (κ : Int32 → mm_R), mm_ln E (mm_hp B S c) (mm_ad B 37) κ = κ (mm_i 20))
    ∧ (∀ (E : mm_E) (B : Nat) (S : mm_S) (c : mm_N) (i : Int) (κ : Int32 → mm_R), 0 ≤ i → i < 20 → mm_rI E (mm_hp B S c) (mm_ad B 38) (mm_i i) κ = κ (mm_i (S.A 38 i)))
    ∧ (∀ (B : Nat) (S : mm_S) (c : mm_N) (i v : Int) (κ : mm_H → mm_R), 0 ≤ i → i < 20 → mm_wI (mm_hp B S c) (mm_ad B 38) (mm_i i) (mm_i v) κ = κ (mm_hp B (S.sA 38 (mm_u (S.A 38) i v)) c))
    ∧ (∀ (E : mm_E) (B : Nat) (S : mm_S) (c : mm_N) (κ : Int32 → mm_R), mm_ln E (mm_hp B S c) (mm_ad B 38) κ = κ (mm_i 20))
    ∧ (∀ (E : mm_E) (B : Nat) (S : mm_S) (c : mm_N) (i : Int) (κ : Int32 → mm_R), 0 ≤ i → i < 20 → mm_rI E (mm_hp B S c) (mm_ad B 39) (mm_i i) κ = κ (mm_i (S.A 39 i)))
    ∧ (∀ (B : Nat) (S : mm_S) (c : mm_N) (i v : Int) (κ : mm_H → mm_R), 0 ≤ i → i < 20 → mm_wI (mm_hp B S c) (mm_ad B 39) (mm_i i) (mm_i v) κ = κ (mm_hp B (S.sA 39 (mm_u (S.A 39) i v)) c))
    ∧ (∀ (E : mm_E) (B : Nat) (S : mm_S) (c : mm_N) (κ : Int32 → mm_R), mm_ln E (mm_hp B S c) (mm_ad B 39) κ = κ (mm_i 20)) := by
  refine ⟨?_, ?_, ?_, ?_, ?_, ?_, ?_, ?_, ?_, ?_, ?_, ?_, ?_, ?_, ?_, ?_⟩
  · exact fun B S c κ => mm_pgR rfl rfl κ
  · exact fun B S c κ => mm_pgR rfl rfl κ
  · exact fun B S c κ => mm_pgR rfl rfl κ
  · exact fun B S c κ => mm_pgI rfl rfl κ
  · exact fun B S c v κ => mm_ppI rfl rfl κ
  · exact fun B S c κ => mm_pgI rfl rfl κ
  · exact fun B S c v κ => mm_ppI rfl rfl κ
  · exact fun E B S c i κ h1 h2 => mm_prI rfl (by decide) h1 h2 κ
  · exact fun B S c i v κ h1 h2 => mm_pwI rfl (by decide) h1 h2 κ
  · exact fun E B S c κ => mm_plI rfl κ
  · exact fun E B S c i κ h1 h2 => mm_prI rfl (by decide) h1 h2 κ
  · exact fun B S c i v κ h1 h2 => mm_pwI rfl (by decide) h1 h2 κ
  · exact fun E B S c κ => mm_plI rfl κ
  · exact fun E B S c i κ h1 h2 => mm_prI rfl (by decide) h1 h2 κ
  · exact fun B S c i v κ h1 h2 => mm_pwI rfl (by decide) h1 h2 κ
  · exact fun E B S c κ => mm_plI rfl κ
theorem mm_ptB : (∀ (B : Nat) (S : mm_S) (c : mm_N) (κ : Nat → mm_R), mm_gR (mm_hp B S c) (mm_ad B 40) 1 0 κ = κ (mm_ad B 41))
    ∧ (∀ (B : Nat) (S : mm_S) (c : mm_N) (κ : Nat → mm_R), mm_gR (mm_hp B S c) (mm_ad B 40) 1 1 κ = κ (mm_ad B 42))
    ∧ (∀ (B : Nat) (S : mm_S) (c : mm_N) (κ : Nat → mm_R), mm_gR (mm_hp B S c) (mm_ad B 40) 1 2 κ = κ (mm_ad B 45))
    ∧ (∀ (B : Nat) (S : mm_S) (c : mm_N) (κ : Nat → mm_R), mm_gR (mm_hp B S c) (mm_ad B 40) 1 3 κ = κ (mm_ad B 48))
    ∧ (∀ (B : Nat) (S : mm_S) (c : mm_N) (κ : Nat → mm_R), mm_gR (mm_hp B S c) (mm_ad B 40) 1 4 κ = κ (mm_ad B 51))
    ∧ (∀ (B : Nat) (S : mm_S) (c : mm_N) (κ : Nat → mm_R), mm_gR (mm_hp B S c) (mm_ad B 40) 1 5 κ = κ (mm_ad B 54))
    ∧ (∀ (B : Nat) (S : mm_S) (c : mm_N) (κ : Nat → mm_R), mm_gR (mm_hp B S c) (mm_ad B 40) 1 6 κ = κ (mm_ad B 55))
    ∧ (∀ (B : Nat) (S : mm_S) (c : mm_N) (κ : Nat → mm_R), mm_gR (mm_hp B S c) (mm_ad B 40) 1 7 κ = κ (mm_ad B 56))
    ∧ (∀ (B : Nat) (S : mm_S) (c : mm_N) (κ : Int64 → mm_R), mm_gJ (mm_hp B S c) (mm_ad B 40) 1 8 κ = κ (mm_j (S.J 40 8)))
    ∧ (∀ (B : Nat) (S : mm_S) (c : mm_N) (v : Int) (κ : mm_H → mm_R), mm_pF (mm_hp B S c) (mm_ad B 40) 1 8 (.long (mm_j v)) κ = κ (mm_hp B (S.sJ 40 8 v) c))
    ∧ (∀ (B : Nat) (S : mm_S) (c : mm_N) (κ : Int64 → mm_R), mm_gJ (mm_hp B S c) (mm_ad B 40) 1 9 κ = κ (mm_j (S.J 40 9)))
    ∧ (∀ (B : Nat) (S : mm_S) (c : mm_N) (v : Int) (κ : mm_H → mm_R), mm_pF (mm_hp B S c) (mm_ad B 40) 1 9 (.long (mm_j v)) κ = κ (mm_hp B (S.sJ 40 9 v) c))
    ∧ (∀ (B : Nat) (S : mm_S) (c : mm_N) (i : Int) (κ : Int64 → mm_R), 0 ≤ i → i < 120 → mm_rJ (mm_hp B S c) (mm_ad B 54) (mm_i i) κ = κ (mm_j (S.L 54 i)))
    ∧ (∀ (B : Nat) (S : mm_S) (c : mm_N) (i v : Int) (κ : mm_H → mm_R), 0 ≤ i → i < 120 → mm_wJ (mm_hp B S c) (mm_ad B 54) (mm_i i) (mm_j v) κ = κ (mm_hp B (S.sL 54 (mm_u (S.L 54) i v)) c))
    ∧ (∀ (E : mm_E) (B : Nat) (S : mm_S) (c : mm_N) (i : Int) (κ : Int32 → mm_R), 0 ≤ i → i < 12 → mm_rI E (mm_hp B S c) (mm_ad B 55) (mm_i i) κ = κ (mm_i (S.A 55 i)))
    ∧ (∀ (B : Nat) (S : mm_S) (c : mm_N) (i v : Int) (κ : mm_H → mm_R), 0 ≤ i → i < 12 → mm_wI (mm_hp B S c) (mm_ad B 55) (mm_i i) (mm_i v) κ = κ (mm_hp B (S.sA 55 (mm_u (S.A 55) i v)) c))
    ∧ (∀ (E : mm_E) (B : Nat) (S : mm_S) (c : mm_N) (κ : Int32 → mm_R), mm_ln E (mm_hp B S c) (mm_ad B 55) κ = κ (mm_i 12))
    ∧ (∀ (E : mm_E) (B : Nat) (S : mm_S) (c : mm_N) (i : Int) (κ : Int32 → mm_R), 0 ≤ i → i < 12 → mm_rI E (mm_hp B S c) (mm_ad B 56) (mm_i i) κ = κ (mm_i (S.A 56 i)))
    ∧ (∀ (B : Nat) (S : mm_S) (c : mm_N) (i v : Int) (κ : mm_H → mm_R), 0 ≤ i → i < 12 → mm_wI (mm_hp B S c) (mm_ad B 56) (mm_i i) (mm_i v) κ = κ (mm_hp B (S.sA 56 (mm_u (S.A 56) i v)) c))
    ∧ (∀ (E : mm_E) (B : Nat) (S : mm_S) (c : mm_N) (κ : Int32 → mm_R), mm_ln E (mm_hp B S c) (mm_ad B 56) κ = κ (mm_i 12)) := by
  refine ⟨?_, ?_, ?_, ?_, ?_, ?_, ?_, ?_, ?_, ?_, ?_, ?_, ?_, ?_, ?_, ?_, ?_, ?_, ?_, ?_⟩
  · exact fun B S c κ => mm_pgR rfl rfl κ
  · exact fun B S c κ => mm_pgR rfl rfl κ
  · exact fun B S c κ => mm_pgR rfl rfl κ
  · exact fun B S c κ => mm_pgR rfl rfl κ
  · exact fun B S c κ => mm_pgR rfl rfl κ
  · exact fun B S c κ => mm_pgR rfl rfl κ
  · exact fun B S c κ => mm_pgR rfl rfl κ
  · exact fun B S c κ => mm_pgR rfl rfl κ
  · exact fun B S c κ => mm_pgJ rfl rfl κ
  · exact fun B S c v κ => mm_ppJ rfl rfl κ
  · exact fun B S c κ => mm_pgJ rfl rfl κ
  · exact fun B S c v κ => mm_ppJ rfl rfl κ
  · exact fun B S c i κ h1 h2 => mm_prJ rfl (by decide) h1 h2 κ
  · exact fun B S c i v κ h1 h2 => mm_pwJ rfl (by decide) h1 h2 κ
  · exact fun E B S c i κ h1 h2 => mm_prI rfl (by decide) h1 h2 κ
  · exact fun B S c i v κ h1 h2 => mm_pwI rfl (by decide) h1 h2 κ
  · exact fun E B S c κ => mm_plI rfl κ
  · exact fun E B S c i κ h1 h2 => mm_prI rfl (by decide) h1 h2 κ
  · exact fun B S c i v κ h1 h2 => mm_pwI rfl (by decide) h1 h2 κ
  · exact fun E B S c κ => mm_plI rfl κ
theorem mm_ptL : (∀ (B : Nat) (S : mm_S) (c : mm_N) (κ : Nat → mm_R), mm_gR (mm_hp B S c) (mm_ad B 93) 2 0 κ = κ (mm_ad B 94))
    ∧ (∀ (B : Nat) (S : mm_S) (c : mm_N) (κ : Nat → mm_R), mm_gR (mm_hp B S c) (mm_ad B 93) 2 1 κ = κ (mm_ad B 95))
    ∧ (∀ (B : Nat) (S : mm_S) (c : mm_N) (κ : Int32 → mm_R), mm_gI (mm_hp B S c) (mm_ad B 93) 2 2 κ = κ (mm_i (S.I 93 2)))
    ∧ (∀ (B : Nat) (S : mm_S) (c : mm_N) (v : Int) (κ : mm_H → mm_R), mm_pF (mm_hp B S c) (mm_ad B 93) 2 2 (.int (mm_i v)) κ = κ (mm_hp B (S.sI 93 2 v) c))
    ∧ (∀ (B : Nat) (S : mm_S) (c : mm_N) (κ : Int32 → mm_R), mm_gI (mm_hp B S c) (mm_ad B 93) 2 3 κ = κ (mm_i (S.I 93 3)))
    ∧ (∀ (B : Nat) (S : mm_S) (c : mm_N) (v : Int) (κ : mm_H → mm_R), mm_pF (mm_hp B S c) (mm_ad B 93) 2 3 (.int (mm_i v)) κ = κ (mm_hp B (S.sI 93 3 v) c))
    ∧ (∀ (B : Nat) (S : mm_S) (c : mm_N) (κ : Int32 → mm_R), mm_gI (mm_hp B S c) (mm_ad B 93) 2 4 κ = κ (mm_i (S.I 93 4)))
    ∧ (∀ (B : Nat) (S : mm_S) (c : mm_N) (v : Int) (κ : mm_H → mm_R), mm_pF (mm_hp B S c) (mm_ad B 93) 2 4 (.int (mm_i v)) κ = κ (mm_hp B (S.sI 93 4 v) c))
    ∧ (∀ (E : mm_E) (B : Nat) (S : mm_S) (c : mm_N) (i : Int) (κ : Int32 → mm_R), 0 ≤ i → i < 41 → mm_rI E (mm_hp B S c) (mm_ad B 94) (mm_i i) κ = κ (mm_i (S.A 94 i)))
    ∧ (∀ (B : Nat) (S : mm_S) (c : mm_N) (i v : Int) (κ : mm_H → mm_R), 0 ≤ i → i < 41 → mm_wI (mm_hp B S c) (mm_ad B 94) (mm_i i) (mm_i v) κ = κ (mm_hp B (S.sA 94 (mm_u (S.A 94) i v)) c))
    ∧ (∀ (E : mm_E) (B : Nat) (S : mm_S) (c : mm_N) (κ : Int32 → mm_R), mm_ln E (mm_hp B S c) (mm_ad B 94) κ = κ (mm_i 41))
    ∧ (∀ (E : mm_E) (B : Nat) (S : mm_S) (c : mm_N) (i : Int) (κ : Int32 → mm_R), 0 ≤ i → i < 41 → mm_rI E (mm_hp B S c) (mm_ad B 95) (mm_i i) κ = κ (mm_i (S.A 95 i)))
    ∧ (∀ (B : Nat) (S : mm_S) (c : mm_N) (i v : Int) (κ : mm_H → mm_R), 0 ≤ i → i < 41 → mm_wI (mm_hp B S c) (mm_ad B 95) (mm_i i) (mm_i v) κ = κ (mm_hp B (S.sA 95 (mm_u (S.A 95) i v)) c))
    ∧ (∀ (E : mm_E) (B : Nat) (S : mm_S) (c : mm_N) (κ : Int32 → mm_R), mm_ln E (mm_hp B S c) (mm_ad B 95) κ = κ (mm_i 41)) := by
  refine ⟨?_, ?_, ?_, ?_, ?_, ?_, ?_, ?_, ?_, ?_, ?_, ?_, ?_, ?_⟩
  · exact fun B S c κ => mm_pgR rfl rfl κ
  · exact fun B S c κ => mm_pgR rfl rfl κ
  · exact fun B S c κ => mm_pgI rfl rfl κ
  · exact fun B S c v κ => mm_ppI rfl rfl κ
  · exact fun B S c κ => mm_pgI rfl rfl κ
  · exact fun B S c v κ => mm_ppI rfl rfl κ
  · exact fun B S c κ => mm_pgI rfl rfl κ
  · exact fun B S c v κ => mm_ppI rfl rfl κ
  · exact fun E B S c i κ h1 h2 => mm_prI rfl (by decide) h1 h2 κ
  · exact fun B S c i v κ h1 h2 => mm_pwI rfl (by decide) h1 h2 κ
  · exact fun E B S c κ => mm_plI rfl κ
  · exact fun E B S c i κ h1 h2 => mm_prI rfl (by decide) h1 h2 κ
  · exact fun B S c i v κ h1 h2 => mm_pwI rfl (by decide) h1 h2 κ
  · exact fun E B S c κ => mm_plI rfl κ
theorem mm_ptG : (∀ (B : Nat) (S : mm_S) (c : mm_N) (κ : Nat → mm_R), mm_gR (mm_hp B S c) (mm_ad B 96) 6 0 κ = κ (mm_ad B 1))
    ∧ (∀ (B : Nat) (S : mm_S) (c : mm_N) (κ : Nat → mm_R), mm_gR (mm_hp B S c) (mm_ad B 96) 6 1 κ = κ (mm_ad B 14))
    ∧ (∀ (B : Nat) (S : mm_S) (c : mm_N) (κ : Int32 → mm_R), mm_gI (mm_hp B S c) (mm_ad B 96) 6 2 κ = κ (mm_i (S.I 96 2)))
    ∧ (∀ (B : Nat) (S : mm_S) (c : mm_N) (v : Int) (κ : mm_H → mm_R), mm_pF (mm_hp B S c) (mm_ad B 96) 6 2 (.int (mm_i v)) κ = κ (mm_hp B (S.sI 96 2 v) c)) := by
  refine ⟨?_, ?_, ?_, ?_⟩
  · exact fun B S c κ => mm_pgR rfl rfl κ
  · exact fun B S c κ => mm_pgR rfl rfl κ
  · exact fun B S c κ => mm_pgI rfl rfl κ
  · exact fun B S c v κ => mm_ppI rfl rfl κ
theorem mm_ptQ : (∀ (B : Nat) (S : mm_S) (c : mm_N) (κ : Nat → mm_R), mm_gR (mm_hp B S c) (mm_ad B 97) 4 0 κ = κ (mm_ad B 1))
    ∧ (∀ (B : Nat) (S : mm_S) (c : mm_N) (κ : Nat → mm_R), mm_gR (mm_hp B S c) (mm_ad B 97) 4 1 κ = κ (mm_ad B 3))
    ∧ (∀ (B : Nat) (S : mm_S) (c : mm_N) (κ : Nat → mm_R), mm_gR (mm_hp B S c) (mm_ad B 97) 4 2 κ = κ (mm_ad B 98))
    ∧ (∀ (B : Nat) (S : mm_S) (c : mm_N) (κ : Nat → mm_R), mm_gR (mm_hp B S c) (mm_ad B 97) 4 3 κ = κ (mm_ad B 99))
    ∧ (∀ (B : Nat) (S : mm_S) (c : mm_N) (κ : Int32 → mm_R), mm_gI (mm_hp B S c) (mm_ad B 97) 4 4 κ = κ (mm_i (S.I 97 4)))
    ∧ (∀ (B : Nat) (S : mm_S) (c : mm_N) (v : Int) (κ : mm_H → mm_R), mm_pF (mm_hp B S c) (mm_ad B 97) 4 4 (.int (mm_i v)) κ = κ (mm_hp B (S.sI 97 4 v) c))
    ∧ (∀ (B : Nat) (S : mm_S) (c : mm_N) (κ : Int32 → mm_R), mm_gI (mm_hp B S c) (mm_ad B 97) 4 5 κ = κ (mm_i (S.I 97 5)))
    ∧ (∀ (B : Nat) (S : mm_S) (c : mm_N) (v : Int) (κ : mm_H → mm_R), mm_pF (mm_hp B S c) (mm_ad B 97) 4 5 (.int (mm_i v)) κ = κ (mm_hp B (S.sI 97 5 v) c))
    ∧ (∀ (B : Nat) (S : mm_S) (c : mm_N) (κ : Int32 → mm_R), mm_gI (mm_hp B S c) (mm_ad B 97) 4 6 κ = κ (mm_i (S.I 97 6)))
    ∧ (∀ (B : Nat) (S : mm_S) (c : mm_N) (v : Int) (κ : mm_H → mm_R), mm_pF (mm_hp B S c) (mm_ad B 97) 4 6 (.int (mm_i v)) κ = κ (mm_hp B (S.sI 97 6 v) c))
    ∧ (∀ (E : mm_E) (B : Nat) (S : mm_S) (c : mm_N) (i : Int) (κ : Int32 → mm_R), 0 ≤ i → i < 200 → mm_rI E (mm_hp B S c) (mm_ad B 98) (mm_i i) κ = κ (mm_i (S.A 98 i)))
    ∧ (∀ (B : Nat) (S : mm_S) (c : mm_N) (i v : Int) (κ : mm_H → mm_R), 0 ≤ i → i < 200 → mm_wI (mm_hp B S c) (mm_ad B 98) (mm_i i) (mm_i v) κ = κ (mm_hp B (S.sA 98 (mm_u (S.A 98) i v)) c))
    ∧ (∀ (E : mm_E) (B : Nat) (S : mm_S) (c : mm_N) (κ : Int32 → mm_R), mm_ln E (mm_hp B S c) (mm_ad B 98) κ = κ (mm_i 200))
    ∧ (∀ (E : mm_E) (B : Nat) (S : mm_S) (c : mm_N) (i : Int) (κ : Int32 → mm_R), 0 ≤ i → i < 64 → mm_rI E (mm_hp B S c) (mm_ad B 99) (mm_i i) κ = κ (mm_i (S.A 99 i)))
    ∧ (∀ (B : Nat) (S : mm_S) (c : mm_N) (i v : Int) (κ : mm_H → mm_R), 0 ≤ i → i < 64 → mm_wI (mm_hp B S c) (mm_ad B 99) (mm_i i) (mm_i v) κ = κ (mm_hp B (S.sA 99 (mm_u (S.A 99) i v)) c))
    ∧ (∀ (E : mm_E) (B : Nat) (S : mm_S) (c : mm_N) (κ : Int32 → mm_R), mm_ln E (mm_hp B S c) (mm_ad B 99) κ = κ (mm_i 64)) := by
  refine ⟨?_, ?_, ?_, ?_, ?_, ?_, ?_, ?_, ?_, ?_, ?_, ?_, ?_, ?_, ?_, ?_⟩
  · exact fun B S c κ => mm_pgR rfl rfl κ
  · exact fun B S c κ => mm_pgR rfl rfl κ
  · exact fun B S c κ => mm_pgR rfl rfl κ
  · exact fun B S c κ => mm_pgR rfl rfl κ
  · exact fun B S c κ => mm_pgI rfl rfl κ
  · exact fun B S c v κ => mm_ppI rfl rfl κ
  · exact fun B S c κ => mm_pgI rfl rfl κ
  · exact fun B S c v κ => mm_ppI rfl rfl κ
  · exact fun B S c κ => mm_pgI rfl rfl κ
  · exact fun B S c v κ => mm_ppI rfl rfl κ
  · exact fun E B S c i κ h1 h2 => mm_prI rfl (by decide) h1 h2 κ
  · exact fun B S c i v κ h1 h2 => mm_pwI rfl (by decide) h1 h2 κ
  · exact fun E B S c κ => mm_plI rfl κ
  · exact fun E B S c i κ h1 h2 => mm_prI rfl (by decide) h1 h2 κ
  · exact fun B S c i v κ h1 h2 => mm_pwI rfl (by decide) h1 h2 κ
  · exact fun E B S c κ => mm_plI rfl κ
theorem mm_ptM : (∀ (B : Nat) (S : mm_S) (c : mm_N) (κ : Int32 → mm_R), mm_gI (mm_hp B S c) (mm_ad B 101) 9 0 κ = κ (mm_i (S.I 101 0)))
    ∧ (∀ (B : Nat) (S : mm_S) (c : mm_N) (v : Int) (κ : mm_H → mm_R), mm_pF (mm_hp B S c) (mm_ad B 101) 9 0 (.int (mm_i v)) κ = κ (mm_hp B (S.sI 101 0 v) c))
    ∧ (∀ (B : Nat) (S : mm_S) (c : mm_N) (κ : Nat → mm_R), mm_gR (mm_hp B S c) (mm_ad B 101) 9 1 κ = κ (mm_ad B 102))
    ∧ (∀ (B : Nat) (S : mm_S) (c : mm_N) (κ : Nat → mm_R), mm_gR (mm_hp B S c) (mm_ad B 101) 9 2 κ = κ (mm_ad B 103))
    ∧ (∀ (B : Nat) (S : mm_S) (c : mm_N) (κ : Nat → mm_R), mm_gR (mm_hp B S c) (mm_ad B 101) 9 3 κ = κ (mm_ad B 104))
    ∧ (∀ (B : Nat) (S : mm_S) (c : mm_N) (κ : Int32 → mm_R), mm_gI (mm_hp B S c) (mm_ad B 101) 9 4 κ = κ (mm_i (S.I 101 4)))
    ∧ (∀ (B : Nat) (S : mm_S) (c : mm_N) (v : Int) (κ : mm_H → mm_R), mm_pF (mm_hp B S c) (mm_ad B 101) 9 4 (.int (mm_i v)) κ = κ (mm_hp B (S.sI 101 4 v) c))
    ∧ (∀ (B : Nat) (S : mm_S) (c : mm_N) (κ : Nat → mm_R), mm_gR (mm_hp B S c) (mm_ad B 101) 9 5 κ = κ (mm_ad B 105))
    ∧ (∀ (B : Nat) (S : mm_S) (c : mm_N) (κ : Nat → mm_R), mm_gR (mm_hp B S c) (mm_ad B 101) 9 6 κ = κ (mm_ad B 106))
    ∧ (∀ (B : Nat) (S : mm_S) (c : mm_N) (κ : Nat → mm_R), mm_gR (mm_hp B S c) (mm_ad B 101) 9 7 κ = κ (mm_ad B 107))
    ∧ (∀ (B : Nat) (S : mm_S) (c : mm_N) (κ : Nat → mm_R), mm_gR (mm_hp B S c) (mm_ad B 101) 9 8 κ = κ (mm_ad B 108))
    ∧ (∀ (B : Nat) (S : mm_S) (c : mm_N) (κ : Nat → mm_R), mm_gR (mm_hp B S c) (mm_ad B 101) 9 9 κ = κ (mm_ad B 109))
    ∧ (∀ (B : Nat) (S : mm_S) (c : mm_N) (κ : Nat → mm_R), mm_gR (mm_hp B S c) (mm_ad B 101) 9 10 κ = κ (mm_ad B 110))
    ∧ (∀ (B : Nat) (S : mm_S) (c : mm_N) (κ : Nat → mm_R), mm_gR (mm_hp B S c) (mm_ad B 101) 9 11 κ = κ (mm_ad B 111))
    ∧ (∀ (B : Nat) (S : mm_S) (c : mm_N) (κ : Nat → mm_R), mm_gR (mm_hp B S c) (mm_ad B 101) 9 12 κ = κ (mm_ad B 112))
    ∧ (∀ (B : Nat) (S : mm_S) (c : mm_N) (κ : Nat → mm_R), mm_gR (mm_hp B S c) (mm_ad B 101) 9 13 κ = κ (mm_ad B 113))
    ∧ (∀ (B : Nat) (S : mm_S) (c : mm_N) (κ : Nat → mm_R), mm_gR (mm_hp B S c) (mm_ad B 101) 9 14 κ = κ (mm_ad B 114))
    ∧ (∀ (B : Nat) (S : mm_S) (c : mm_N) (κ : Int32 → mm_R), mm_gI (mm_hp B S c) (mm_ad B 101) 9 15 κ = κ (mm_i (S.I 101 15)))
    ∧ (∀ (B : Nat) (S : mm_S) (c : mm_N) (v : Int) (κ : mm_H → mm_R), mm_pF (mm_hp B S c) (mm_ad B 101) 9 15 (.int (mm_i v)) κ = κ (mm_hp B (S.sI 101 15 v) c))
    ∧ (∀ (B : Nat) (S : mm_S) (c : mm_N) (κ : Nat → mm_R), mm_gR (mm_hp B S c) (mm_ad B 101) 9 16 κ = κ (mm_ad B 115))
    ∧ (∀ (B : Nat) (S : mm_S) (c : mm_N) (κ : Nat → mm_R), mm_gR (mm_hp B S c) (mm_ad B 101) 9 17 κ = κ (mm_ad B 116))
    ∧ (∀ (B : Nat) (S : mm_S) (c : mm_N) (κ : Int32 → mm_R), mm_gI (mm_hp B S c) (mm_ad B 101) 9 18 κ = κ (mm_i (S.I 101 18)))
    ∧ (∀ (B : Nat) (S : mm_S) (c : mm_N) (v : Int) (κ : mm_H → mm_R), mm_pF (mm_hp B S c) (mm_ad B 101) 9 18 (.int (mm_i v)) κ = κ (mm_hp B (S.sI 101 18 v) c))
    ∧ (∀ (B : Nat) (S : mm_S) (c : mm_N) (κ : Nat → mm_R), mm_gR (mm_hp B S c) (mm_ad B 101) 9 19 κ = κ (mm_ad B 117))
    ∧ (∀ (B : Nat) (S : mm_S) (c : mm_N) (κ : Nat → mm_R), mm_gR (mm_hp B S c) (mm_ad B 101) 9 20 κ = κ (mm_ad B 118))
    ∧ (∀ (B : Nat) (S : mm_S) (c : mm_N) (κ : Nat → mm_R), mm_gR (mm_hp B S c) (mm_ad B 101) 9 21 κ = κ (mm_ad B 119))
    ∧ (∀ (B : Nat) (S : mm_S) (c : mm_N) (κ : Nat → mm_R), mm_gR (mm_hp B S c) (mm_ad B 101) 9 22 κ = κ (mm_ad B 120))
    ∧ (∀ (B : Nat) (S : mm_S) (c : mm_N) (κ : Nat → mm_R), mm_gR (mm_hp B S c) (mm_ad B 101) 9 23 κ = κ (mm_ad B 121))
    ∧ (∀ (B : Nat) (S : mm_S) (c : mm_N) (κ : Int32 → mm_R), mm_gI (mm_hp B S c) (mm_ad B 101) 9 24 κ = κ (mm_i (S.I 101 24)))
    ∧ (∀ (B : Nat) (S : mm_S) (c : mm_N) (v : Int) (κ : mm_H → mm_R), mm_pF (mm_hp B S c) (mm_ad B 101) 9 24 (.int (mm_i v)) κ = κ (mm_hp B (S.sI 101 24 v) c))
    ∧ (∀ (B : Nat) (S : mm_S) (c : mm_N) (κ : Nat → mm_R), mm_gR (mm_hp B S c) (mm_ad B 101) 9 25 κ = κ (mm_ad B 122))
    ∧ (∀ (B : Nat) (S : mm_S) (c : mm_N) (κ : Int32 → mm_R), mm_gI (mm_hp B S c) (mm_ad B 101) 9 26 κ = κ (mm_i (S.I 101 26)))
    ∧ (∀ (B : Nat) (S : mm_S) (c : mm_N) (v : Int) (κ : mm_H → mm_R), mm_pF (mm_hp B S c) (mm_ad B 101) 9 26 (.int (mm_i v)) κ = κ (mm_hp B (S.sI 101 26 v) c))
    ∧ (∀ (B : Nat) (S : mm_S) (c : mm_N) (κ : Int32 → mm_R), mm_gI (mm_hp B S c) (mm_ad B 101) 9 27 κ = κ (mm_i (S.I 101 27)))
    ∧ (∀ (B : Nat) (S : mm_S) (c : mm_N) (v : Int) (κ : mm_H → mm_R), mm_pF (mm_hp B S c) (mm_ad B 101) 9 27 (.int (mm_i v)) κ = κ (mm_hp B (S.sI 101 27 v) c))
    ∧ (∀ (B : Nat) (S : mm_S) (c : mm_N) (κ : Int32 → mm_R), mm_gI (mm_hp B S c) (mm_ad B 101) 9 28 κ = κ (mm_i (S.I 101 28)))
    ∧ (∀ (B : Nat) (S : mm_S) (c : mm_N) (v : Int) (κ : mm_H → mm_R), mm_pF (mm_hp B S c) (mm_ad B 101) 9 28 (.int (mm_i v)) κ = κ (mm_hp B (S.sI 101 28 v) c))
    ∧ (∀ (B : Nat) (S : mm_S) (c : mm_N) (κ : Int32 → mm_R), mm_gI (mm_hp B S c) (mm_ad B 101) 9 29 κ = κ (mm_i (S.I 101 29)))
    ∧ (∀ (B : Nat) (S : mm_S) (c : mm_N) (v : Int) (κ : mm_H → mm_R), mm_pF (mm_hp B S c) (mm_ad B 101) 9 29 (.int (mm_i v)) κ = κ (mm_hp B (S.sI 101 29 v) c))
    ∧ (∀ (B : Nat) (S : mm_S) (c : mm_N) (κ : Int32 → mm_R), mm_gI (mm_hp B S c) (mm_ad B 101) 9 30 κ = κ (mm_i (S.I 101 30)))
    ∧ (∀ (B : Nat) (S : mm_S) (c : mm_N) (v : Int) (κ : mm_H → mm_R), mm_pF (mm_hp B S c) (mm_ad B 101) 9 30 (.int (mm_i v)) κ = κ (mm_hp B (S.sI 101 30 v) c))
    ∧ (∀ (B : Nat) (S : mm_S) (c : mm_N) (κ : Int32 → mm_R), mm_gI (mm_hp B S c) (mm_ad B 101) 9 31 κ = κ (mm_i (S.I 101 31)))
    ∧ (∀ (B : Nat) (S : mm_S) (c : mm_N) (v : Int) (κ : mm_H → mm_R), mm_pF (mm_hp B S c) (mm_ad B 101) 9 31 (.int (mm_i v)) κ = κ (mm_hp B (S.sI 101 31 v) c))
    ∧ (∀ (B : Nat) (S : mm_S) (c : mm_N) (κ : Int32 → mm_R), mm_gI (mm_hp B S c) (mm_ad B 101) 9 32 κ = κ (mm_i (S.I 101 32)))
    ∧ (∀ (B : Nat) (S : mm_S) (c : mm_N) (v : Int) (κ : mm_H → mm_R), mm_pF (mm_hp B S c) (mm_ad B 101) 9 32 (.int (mm_i v)) κ = κ (mm_hp B (S.sI 101 32 v) c))
    ∧ (∀ (B : Nat) (S : mm_S) (c : mm_N) (κ : Int32 → mm_R), mm_gI (mm_hp B S c) (mm_ad B 101) 9 33 κ = κ (mm_i (S.I 101 33)))
    ∧ (∀ (B : Nat) (S : mm_S) (c : mm_N) (v : Int) (κ : mm_H → mm_R), mm_pF (mm_hp B S c) (mm_ad B 101) 9 33 (.int (mm_i v)) κ = κ (mm_hp B (S.sI 101 33 v) c))
    ∧ (∀ (B : Nat) (S : mm_S) (c : mm_N) (κ : Int32 → mm_R), mm_gI (mm_hp B S c) (mm_ad B 101) 9 34 κ = κ (mm_i (S.I 101 34)))
    ∧ (∀ (B : Nat) (S : mm_S) (c : mm_N) (v : Int) (κ : mm_H → mm_R), mm_pF (mm_hp B S c) (mm_ad B 101) 9 34 (.int (mm_i v)) κ = κ (mm_hp B (S.sI 101 34 v) c))
    ∧ (∀ (B : Nat) (S : mm_S) (c : mm_N) (κ : Int32 → mm_R), mm_gI (mm_hp B S c) (mm_ad B 101) 9 35 κ = κ (mm_i (S.I 101 35)))
    ∧ (∀ (B : Nat) (S : mm_S) (c : mm_N) (v : Int) (κ : mm_H → mm_R), mm_pF (mm_hp B S c) (mm_ad B 101) 9 35 (.int (mm_i v)) κ = κ (mm_hp B (S.sI 101 35 v) c))
    ∧ (∀ (B : Nat) (S : mm_S) (c : mm_N) (κ : Int32 → mm_R), mm_gI (mm_hp B S c) (mm_ad B 101) 9 36 κ = κ (mm_i (S.I 101 36)))
    ∧ (∀ (B : Nat) (S : mm_S) (c : mm_N) (v : Int) (κ : mm_H → mm_R), mm_pF (mm_hp B S c) (mm_ad B 101) 9 36 (.int (mm_i v)) κ = κ (mm_hp B (S.sI 101 36 v) c))
    ∧ (∀ (B : Nat) (S : mm_S) (c : mm_N) (κ : Int32 → mm_R), mm_gI (mm_hp B S c) (mm_ad B 101) 9 37 κ = κ (mm_i (S.I 101 37)))
    ∧ (∀ (B : Nat) (S : mm_S) (c : mm_N) (v : Int) (κ : mm_H → mm_R), mm_pF (mm_hp B S c) (mm_ad B 101) 9 37 (.int (mm_i v)) κ = κ (mm_hp B (S.sI 101 37 v) c))
    ∧ (∀ (B : Nat) (S : mm_S) (c : mm_N) (κ : Int32 → mm_R), mm_gI (mm_hp B S c) (mm_ad B 101) 9 38 κ = κ (mm_i (S.I 101 38)))
    ∧ (∀ (B : Nat) (S : mm_S) (c : mm_N) (v : Int) (κ : mm_H → mm_R), mm_pF (mm_hp B S c) (mm_ad B 101) 9 38 (.int (mm_i v)) κ = κ (mm_hp B (S.sI 101 38 v) c))
    ∧ (∀ (E : mm_E) (B : Nat) (S : mm_S) (c : mm_N) (i : Int) (κ : Int32 → mm_R), 0 ≤ i → i < 190 → mm_rI E (mm_hp B S c) (mm_ad B 102) (mm_i i) κ = κ (mm_i (S.A 102 i)))
    ∧ (∀ (B : Nat) (S : mm_S) (c : mm_N) (i v : Int) (κ : mm_H → mm_R), 0 ≤ i → i < 190 → mm_wI (mm_hp B S c) (mm_ad B 102) (mm_i i) (mm_i v) κ = κ (mm_hp B (S.sA 102 (mm_u (S.A 102) i v)) c))
    ∧ (∀ (E : mm_E) (B : Nat) (S : mm_S) (c : mm_N) (κ : Int32 → mm_R), mm_ln E (mm_hp B S c) (mm_ad B 102) κ = κ (mm_i 190))
    ∧ (∀ (E : mm_E) (B : Nat) (S : mm_S) (c : mm_N) (i : Int) (κ : Int32 → mm_R), 0 ≤ i → i < 190 → mm_rI E (mm_hp B S c) (mm_ad B 103) (mm_i i) κ = κ (mm_i (S.A 103 i)))
    ∧ (∀ (B : Nat) (S : mm_S) (c : mm_N) (i v : Int) (κ : mm_H → mm_R), 0 ≤ i → i < 190 → mm_wI (mm_hp B S c) (mm_ad B 103) (mm_i i) (mm_i v) κ = κ (mm_hp B (S.sA 103 (mm_u (S.A 103) i v)) c))
    ∧ (∀ (E : mm_E) (B : Nat) (S : mm_S) (c : mm_N) (κ : Int32 → mm_R), mm_ln E (mm_hp B S c) (mm_ad B 103) κ = κ (mm_i 190))
    ∧ (∀ (E : mm_E) (B : Nat) (S : mm_S) (c : mm_N) (i : Int) (κ : Int32 → mm_R), 0 ≤ i → i < 3800 → mm_rI E (mm_hp B S c) (mm_ad B 104) (mm_i i) κ = κ (mm_i (S.A 104 i)))
    ∧ (∀ (B : Nat) (S : mm_S) (c : mm_N) (i v : Int) (κ : mm_H → mm_R), 0 ≤ i → i < 3800 → mm_wI (mm_hp B S c) (mm_ad B 104) (mm_i i) (mm_i v) κ = κ (mm_hp B (S.sA 104 (mm_u (S.A 104) i v)) c))
    ∧ (∀ (E : mm_E) (B : Nat) (S : mm_S) (c : mm_N) (κ : Int32 → mm_R), mm_ln E (mm_hp B S c) (mm_ad B 104) κ = κ (mm_i 3800))
    ∧ (∀ (E : mm_E) (B : Nat) (S : mm_S) (c : mm_N) (i : Int) (κ : Int32 → mm_R), 0 ≤ i → i < 12 → mm_rI E (mm_hp B S c) (mm_ad B 105) (mm_i i) κ = κ (mm_i (S.A 105 i)))
    ∧ (∀ (B : Nat) (S : mm_S) (c : mm_N) (i v : Int) (κ : mm_H → mm_R), 0 ≤ i → i < 12 → mm_wI (mm_hp B S c) (mm_ad B 105) (mm_i i) (mm_i v) κ = κ (mm_hp B (S.sA 105 (mm_u (S.A 105) i v)) c))
    ∧ (∀ (E : mm_E) (B : Nat) (S : mm_S) (c : mm_N) (κ : Int32 → mm_R), mm_ln E (mm_hp B S c) (mm_ad B 105) κ = κ (mm_i 12))
    ∧ (∀ (E : mm_E) (B : Nat) (S : mm_S) (c : mm_N) (i : Int) (κ : Int32 → mm_R), 0 ≤ i → i < 480 → mm_rI E (mm_hp B S c) (mm_ad B 106) (mm_i i) κ = κ (mm_i (S.A 106 i)))
    ∧ (∀ (B : Nat) (S : mm_S) (c : mm_N) (i v : Int) (κ : mm_H → mm_R), 0 ≤ i → i < 480 → mm_wI (mm_hp B S c) (mm_ad B 106) (mm_i i) (mm_i v) κ = κ (mm_hp B (S.sA 106 (mm_u (S.A 106) i v)) c))
    ∧ (∀ (E : mm_E) (B : Nat) (S : mm_S) (c : mm_N) (κ : Int32 → mm_R), mm_ln E (mm_hp B S c) (mm_ad B 106) κ = κ (mm_i 480))
    ∧ (∀ (E : mm_E) (B : Nat) (S : mm_S) (c : mm_N) (i : Int) (κ : Int32 → mm_R), 0 ≤ i → i < 12 → mm_rI E (mm_hp B S c) (mm_ad B 107) (mm_i i) κ = κ (mm_i (S.A 107 i)))
    ∧ (∀ (B : Nat) (S : mm_S) (c : mm_N) (i v : Int) (κ : mm_H → mm_R), 0 ≤ i → i < 12 → mm_wI (mm_hp B S c) (mm_ad B 107) (mm_i i) (mm_i v) κ = κ (mm_hp B (S.sA 107 (mm_u (S.A 107) i v)) c))
    ∧ (∀ (E : mm_E) (B : Nat) (S : mm_S) (c : mm_N) (κ : Int32 → mm_R), mm_ln E (mm_hp B S c) (mm_ad B 107) κ = κ (mm_i 12))
    ∧ (∀ (E : mm_E) (B : Nat) (S : mm_S) (c : mm_N) (i : Int) (κ : Int32 → mm_R), 0 ≤ i → i < 1440 → mm_rI E (mm_hp B S c) (mm_ad B 108) (mm_i i) κ = κ (mm_i (S.A 108 i)))
    ∧ (∀ (B : Nat) (S : mm_S) (c : mm_N) (i v : Int) (κ : mm_H → mm_R), 0 ≤ i → i < 1440 → mm_wI (mm_hp B S c) (mm_ad B 108) (mm_i i) (mm_i v) κ = κ (mm_hp B (S.sA 108 (mm_u (S.A 108) i v)) c))
    ∧ (∀ (E : mm_E) (B : Nat) (S : mm_S) (c : mm_N) (κ : Int32 → mm_R), mm_ln E (mm_hp B S c) (mm_ad B 108) κ = κ (mm_i 1440))
    ∧ (∀ (E : mm_E) (B : Nat) (S : mm_S) (c : mm_N) (i : Int) (κ : Int32 → mm_R), 0 ≤ i → i < 1440 → mm_rI E (mm_hp B S c) (mm_ad B 109) (mm_i i) κ = κ (mm_i (S.A 109 i)))
    ∧ (∀ (B : Nat) (S : mm_S) (c : mm_N) (i v : Int) (κ : mm_H → mm_R), 0 ≤ i → i < 1440 → mm_wI (mm_hp B S c) (mm_ad B 109) (mm_i i) (mm_i v) κ = κ (mm_hp B (S.sA 109 (mm_u (S.A 109) i v)) c))
    ∧ (∀ (E : mm_E) (B : Nat) (S : mm_S) (c : mm_N) (κ : Int32 → mm_R), mm_ln E (mm_hp B S c) (mm_ad B 109) κ = κ (mm_i 1440))
    ∧ (∀ (E : mm_E) (B : Nat) (S : mm_S) (c : mm_N) (i : Int) (κ : Int32 → mm_R), 0 ≤ i → i < 120 → mm_rI E (mm_hp B S c) (mm_ad B 110) (mm_i i) κ = κ (mm_i (S.A 110 i)))
    ∧ (∀ (B : Nat) (S : mm_S) (c : mm_N) (i v : Int) (κ : mm_H → mm_R), 0 ≤ i → i < 120 → mm_wI (mm_hp B S c) (mm_ad B 110) (mm_i i) (mm_i v) κ = κ (mm_hp B (S.sA 110 (mm_u (S.A 110) i v)) c))
    ∧ (∀ (E : mm_E) (B : Nat) (S : mm_S) (c : mm_N) (κ : Int32 → mm_R), mm_ln E (mm_hp B S c) (mm_ad B 110) κ = κ (mm_i 120))
    ∧ (∀ (E : mm_E) (B : Nat) (S : mm_S) (c : mm_N) (i : Int) (κ : Int32 → mm_R), 0 ≤ i → i < 120 → mm_rI E (mm_hp B S c) (mm_ad B 111) (mm_i i) κ = κ (mm_i (S.A 111 i)))
    ∧ (∀ (B : Nat) (S : mm_S) (c : mm_N) (i v : Int) (κ : mm_H → mm_R), 0 ≤ i → i < 120 → mm_wI (mm_hp B S c) (mm_ad B 111) (mm_i i) (mm_i v) κ = κ (mm_hp B (S.sA 111 (mm_u (S.A 111) i v)) c))
    ∧ (∀ (E : mm_E) (B : Nat) (S : mm_S) (c : mm_N) (κ : Int32 → mm_R), mm_ln E (mm_hp B S c) (mm_ad B 111) κ = κ (mm_i 120))
    ∧ (∀ (E : mm_E) (B : Nat) (S : mm_S) (c : mm_N) (i : Int) (κ : Int32 → mm_R), 0 ≤ i → i < 120 → mm_rI E (mm_hp B S c) (mm_ad B 112) (mm_i i) κ = κ (mm_i (S.A 112 i)))
    ∧ (∀ (B : Nat) (S : mm_S) (c : mm_N) (i v : Int) (κ : mm_H → mm_R), 0 ≤ i → i < 120 → mm_wI (mm_hp B S c) (mm_ad B 112) (mm_i i) (mm_i v) κ = κ (mm_hp B (S.sA 112 (mm_u (S.A 112) i v)) c))
    ∧ (∀ (E : mm_E) (B : Nat) (S : mm_S) (c : mm_N) (κ : Int32 → mm_R), mm_ln E (mm_hp B S c) (mm_ad B 112) κ = κ (mm_i 120))
    ∧ (∀ (E : mm_E) (B : Nat) (S : mm_S) (c : mm_N) (i : Int) (κ : Int32 → mm_R), 0 ≤ i → i < 120 → mm_rI E (mm_hp B S c) (mm_ad B 113) (mm_i i) κ = κ (mm_i (S.A 113 i)))
    ∧ (∀ (B : Nat) (S : mm_S) (c : mm_N) (i v : Int) (κ : mm_H → mm_R), 0 ≤ i → i < 120 → mm_wI (mm_hp B S c) (mm_ad B 113) (mm_i i) (mm_i v) κ = κ (mm_hp B (S.sA 113 (mm_u (S.A 113) i v)) c))
    ∧ (∀ (E : mm_E) (B : Nat) (S : mm_S) (c : mm_N) (κ : Int32 → mm_R), mm_ln E (mm_hp B S c) (mm_ad B 113) κ = κ (mm_i 120))
    ∧ (∀ (E : mm_E) (B : Nat) (S : mm_S) (c : mm_N) (i : Int) (κ : Int32 → mm_R), 0 ≤ i → i < 2880 → mm_rI E (mm_hp B S c) (mm_ad B 114) (mm_i i) κ = κ (mm_i (S.A 114 i)))
    ∧ (∀ (B : Nat) (S : mm_S) (c : mm_N) (i v : Int) (κ : mm_H → mm_R), 0 ≤ i → i < 2880 → mm_wI (mm_hp B S c) (mm_ad B 114) (mm_i i) (mm_i v) κ = κ (mm_hp B (S.sA 114 (mm_u (S.A 114) i v)) c))
    ∧ (∀ (E : mm_E) (B : Nat) (S : mm_S) (c : mm_N) (κ : Int32 → mm_R), mm_ln E (mm_hp B S c) (mm_ad B 114) κ = κ (mm_i 2880))
    ∧ (∀ (E : mm_E) (B : Nat) (S : mm_S) (c : mm_N) (i : Int) (κ : Int32 → mm_R), 0 ≤ i → i < 12 → mm_rI E (mm_hp B S c) (mm_ad B 115) (mm_i i) κ = κ (mm_i (S.A 115 i)))
    ∧ (∀ (B : Nat) (S : mm_S) (c : mm_N) (i v : Int) (κ : mm_H → mm_R), 0 ≤ i → i < 12 → mm_wI (mm_hp B S c) (mm_ad B 115) (mm_i i) (mm_i v) κ = κ (mm_hp B (S.sA 115 (mm_u (S.A 115) i v)) c))
    ∧ (∀ (E : mm_E) (B : Nat) (S : mm_S) (c : mm_N) (κ : Int32 → mm_R), mm_ln E (mm_hp B S c) (mm_ad B 115) κ = κ (mm_i 12))
    ∧ (∀ (E : mm_E) (B : Nat) (S : mm_S) (c : mm_N) (i : Int) (κ : Int32 → mm_R), 0 ≤ i → i < 12 → mm_rI E (mm_hp B S c) (mm_ad B 116) (mm_i i) κ = κ (mm_i (S.A 116 i)))
    ∧ (∀ (B : Nat) (S : mm_S) (c : mm_N) (i v : Int) (κ : mm_H → mm_R), 0 ≤ i → i < 12 → mm_wI (mm_hp B S c) (mm_ad B 116) (mm_i i) (mm_i v) κ = κ (mm_hp B (S.sA 116 (mm_u (S.A 116) i v)) c))
    ∧ (∀ (E : mm_E) (B : Nat) (S : mm_S) (c : mm_N) (κ : Int32 → mm_R), mm_ln E (mm_hp B S c) (mm_ad B 116) κ = κ (mm_i 12))
    ∧ (∀ (E : mm_E) (B : Nat) (S : mm_S) (c : mm_N) (i : Int) (κ : Int32 → mm_R), 0 ≤ i → i < 40 → mm_rI E (mm_hp B S c) (mm_ad B 117) (mm_i i) κ = κ (mm_i (S.A 117 i)))
    ∧ (∀ (B : Nat) (S : mm_S) (c : mm_N) (i v : Int) (κ : mm_H → mm_R), 0 ≤ i → i < 40 → mm_wI (mm_hp B S c) (mm_ad B 117) (mm_i i) (mm_i v) κ = κ (mm_hp B (S.sA 117 (mm_u (S.A 117) i v)) c))
    ∧ (∀ (E : mm_E) (B : Nat) (S : mm_S) (c : mm_N) (κ : Int32 → mm_R), mm_ln E (mm_hp B S c) (mm_ad B 117) κ = κ (mm_i 40))
    ∧ (∀ (E : mm_E) (B : Nat) (S : mm_S) (c : mm_N) (i : Int) (κ : Int32 → mm_R), 0 ≤ i → i < 41 → mm_rI E (mm_hp B S c) (mm_ad B 118) (mm_i i) κ = κ (mm_i (S.A 118 i)))
    ∧ (∀ (B : Nat) (S : mm_S) (c : mm_N) (i v : Int) (κ : mm_H → mm_R), 0 ≤ i → i < 41 → mm_wI (mm_hp B S c) (mm_ad B 118) (mm_i i) (mm_i v) κ = κ (mm_hp B (S.sA 118 (mm_u (S.A 118) i v)) c))
    ∧ (∀ (E : mm_E) (B : Nat) (S : mm_S) (c : mm_N) (κ : Int32 → mm_R), mm_ln E (mm_hp B S c) (mm_ad B 118) κ = κ (mm_i 41))
    ∧ (∀ (E : mm_E) (B : Nat) (S : mm_S) (c : mm_N) (i : Int) (κ : Int32 → mm_R), 0 ≤ i → i < 190 → mm_rI E (mm_hp B S c) (mm_ad B 119) (mm_i i) κ = κ (mm_i (S.A 119 i)))
    ∧ (∀ (B : Nat) (S : mm_S) (c : mm_N) (i v : Int) (κ : mm_H → mm_R), 0 ≤ i → i < 190 → mm_wI (mm_hp B S c) (mm_ad B 119) (mm_i i) (mm_i v) κ = κ (mm_hp B (S.sA 119 (mm_u (S.A 119) i v)) c))
    ∧ (∀ (E : mm_E) (B : Nat) (S : mm_S) (c : mm_N) (κ : Int32 → mm_R), mm_ln E (mm_hp B S c) (mm_ad B 119) κ = κ (mm_i 190))
    ∧ (∀ (E : mm_E) (B : Nat) (S : mm_S) (c : mm_N) (i : Int) (κ : Int32 → mm_R), 0 ≤ i → i < 12 → mm_rI E (mm_hp B S c) (mm_ad B 120) (mm_i i) κ = κ (mm_i (S.A 120 i)))
    ∧ (∀ (B : Nat) (S : mm_S) (c : mm_N) (i v : Int) (κ : mm_H → mm_R), 0 ≤ i → i < 12 → mm_wI (mm_hp B S c) (mm_ad B 120) (mm_i i) (mm_i v) κ = κ (mm_hp B (S.sA 120 (mm_u (S.A 120) i v)) c))
    ∧ (∀ (E : mm_E) (B : Nat) (S : mm_S) (c : mm_N) (κ : Int32 → mm_R), mm_ln E (mm_hp B S c) (mm_ad B 120) κ = κ (mm_i 12))
    ∧ (∀ (E : mm_E) (B : Nat) (S : mm_S) (c : mm_N) (i : Int) (κ : Int32 → mm_R), 0 ≤ i → i < 480 → mm_rI E (mm_hp B S c) (mm_ad B 121) (mm_i i) κ = κ (mm_i (S.A 121 i)))
    ∧ (∀ (B : Nat) (S : mm_S) (c : mm_N) (i v : Int) (κ : mm_H → mm_R), 0 ≤ i → i < 480 → mm_wI (mm_hp B S c) (mm_ad B 121) (mm_i i) (mm_i v) κ = κ (mm_hp B (S.sA 121 (mm_u (S.A 121) i v)) c))
    ∧ (∀ (E : mm_E) (B : Nat) (S : mm_S) (c : mm_N) (κ : Int32 → mm_R), mm_ln E (mm_hp B S c) (mm_ad B 121) κ = κ (mm_i 480))
    ∧ (∀ (E : mm_E) (B : Nat) (S : mm_S) (c : mm_N) (i : Int) (κ : Int32 → mm_R), 0 ≤ i → i < 400 → mm_rI E (mm_hp B S c) (mm_ad B 122) (mm_i i) κ = κ (mm_i (S.A 122 i)))
    ∧ (∀ (B : Nat) (S : mm_S) (c : mm_N) (i v : Int) (κ : mm_H → mm_R), 0 ≤ i → i < 400 → mm_wI (mm_hp B S c) (mm_ad B 122) (mm_i i) (mm_i v) κ = κ (mm_hp B (S.sA 122 (mm_u (S.A 122) i v)) c))
    ∧ (∀ (E : mm_E) (B : Nat) (S : mm_S) (c : mm_N) (κ : Int32 → mm_R), mm_ln E (mm_hp B S c) (mm_ad B 122) κ = κ (mm_i 400)) := by
  refine ⟨?_, ?_, ?_, ?_, ?_, ?_, ?_, ?_, ?_, ?_, ?_, ?_, ?_, ?_, ?_, ?_, ?_, ?_, ?_, ?_, ?_, ?_, ?_, ?_, ?_, ?_, ?_, ?_, ?_, ?_, ?_, ?_, ?_, ?_, ?_, ?_, ?_, ?_, ?_, ?_, ?_, ?_, ?_, ?_, ?_, ?_, ?_, ?_, ?_, ?_, ?_, ?_, ?_, ?_, ?_, ?_, ?_, ?_, ?_, ?_, ?_, ?_, ?_, ?_, ?_, ?_, ?_, ?_, ?_, ?_, ?_, ?_, ?_, ?_, ?_, ?_, ?_, ?_, ?_, ?_, ?_, ?_, ?_, ?_, ?_, ?_, ?_, ?_, ?_, ?_, ?_, ?_, ?_, ?_, ?_, ?_, ?_, ?_, ?_, ?_, ?_, ?_, ?_, ?_, ?_, ?_, ?_, ?_, ?_, ?_, ?_, ?_, ?_, ?_, ?_, ?_, ?_, ?_, ?_, ?_⟩
  · exact fun B S c κ => mm_pgI rfl rfl κ
  · exact fun B S c v κ => mm_ppI rfl rfl κ
  · exact fun B S c κ => mm_pgR rfl rfl κ
  · exact fun B S c κ => mm_pgR rfl rfl κ
  · exact fun B S c κ => mm_pgR rfl rfl κ
  · exact fun B S c κ => mm_pgI rfl rfl κ
  · exact fun B S c v κ => mm_ppI rfl rfl κ
  · exact fun B S c κ => mm_pgR rfl rfl κ
  · exact fun B S c κ => mm_pgR rfl rfl κ
  · exact fun B S c κ => mm_pgR rfl rfl κ
  · exact fun B S c κ => mm_pgR rfl rfl κ
  · exact fun B S c κ => mm_pgR rfl rfl κ
  · exact fun B S c κ => mm_pgR rfl rfl κ
  · exact fun B S c κ => mm_pgR rfl rfl κ
  · exact fun B S c κ => mm_pgR rfl rfl κ
  · exact fun B S c κ => mm_pgR rfl rfl κ
  · exact fun B S c κ => mm_pgR rfl rfl κ
  · exact fun B S c κ => mm_pgI rfl rfl κ
  · exact fun B S c v κ => mm_ppI rfl rfl κ
  · exact fun B S c κ => mm_pgR rfl rfl κ
  · exact fun B S c κ => mm_pgR rfl rfl κ
  · exact fun B S c κ => mm_pgI rfl rfl κ
  · exact fun B S c v κ => mm_ppI rfl rfl κ
  · exact fun B S c κ => mm_pgR rfl rfl κ
  · exact fun B S c κ => mm_pgR rfl rfl κ
  · exact fun B S c κ => mm_pgR rfl rfl κ
  · exact fun B S c κ => mm_pgR rfl rfl κ
  · exact fun B S c κ => mm_pgR rfl rfl κ
  · exact fun B S c κ => mm_pgI rfl rfl κ
  · exact fun B S c v κ => mm_ppI rfl rfl κ
  · exact fun B S c κ => mm_pgR rfl rfl κ
  · exact fun B S c κ => mm_pgI rfl rfl κ
  · exact fun B S c v κ => mm_ppI rfl rfl κ
  · exact fun B S c κ => mm_pgI rfl rfl κ
  · exact fun B S c v κ => mm_ppI rfl rfl κ
  · exact fun B S c κ => mm_pgI rfl rfl κ
  · exact fun B S c v κ => mm_ppI rfl rfl κ
  · exact fun B S c κ => mm_pgI rfl rfl κ
  · exact fun B S c v κ => mm_ppI rfl rfl κ
  · exact fun B S c κ => mm_pgI rfl rfl κ
  · exact fun B S c v κ => mm_ppI rfl rfl κ
  · exact fun B S c κ => mm_pgI rfl rfl κ
  · exact fun B S c v κ => mm_ppI rfl rfl κ
  · exact fun B S c κ => mm_pgI rfl rfl κ
  · exact fun B S c v κ => mm_ppI rfl rfl κ
  · exact fun B S c κ => mm_pgI rfl rfl κ
  · exact fun B S c v κ => mm_ppI rfl rfl κ
  · exact fun B S c κ => mm_pgI rfl rfl κ
  · exact fun B S c v κ => mm_ppI rfl rfl κ
  · exact fun B S c κ => mm_pgI rfl rfl κ
  · exact fun B S c v κ => mm_ppI rfl rfl κ
  · exact fun B S c κ => mm_pgI rfl rfl κ
  · exact fun B S c v κ => mm_ppI rfl rfl κ
  · exact fun B S c κ => mm_pgI rfl rfl κ
  · exact fun B S c v κ => mm_ppI rfl rfl κ
  · exact fun B S c κ => mm_pgI rfl rfl κ
  · exact fun B S c v κ => mm_ppI rfl rfl κ
  · exact fun E B S c i κ h1 h2 => mm_prI rfl (by decide) h1 h2 κ
  · exact fun B S c i v κ h1 h2 => mm_pwI rfl (by decide) h1 h2 κ
  · exact fun E B S c κ => mm_plI rfl κ
  · exact fun E B S c i κ h1 h2 => mm_prI rfl (by decide) h1 h2 κ
  · exact fun B S c i v κ h1 h2 => mm_pwI rfl (by decide) h1 h2 κ
  · exact fun E B S c κ => mm_plI rfl κ
  · exact fun E B S c i κ h1 h2 => mm_prI rfl (by decide) h1 h2 κ
  · exact fun B S c i v κ h1 h2 => mm_pwI rfl (by decide) h1 h2 κ
  · exact fun E B S c κ => mm_plI rfl κ
  · exact fun E B S c i κ h1 h2 => mm_prI rfl (by decide) h1 h2 κ
  · exact fun B S c i v κ h1 h2 => mm_pwI rfl (by decide) h1 h2 κ
  · exact fun E B S c κ => mm_plI rfl κ
  · exact fun E B S c i κ h1 h2 => mm_prI rfl (by decide) h1 h2 κ
  · exact fun B S c i v κ h1 h2 => mm_pwI rfl (by decide) h1 h2 κ
  · exact fun E B S c κ => mm_plI rfl κ
  · exact fun E B S c i κ h1 h2 => mm_prI rfl (by decide) h1 h2 κ
  · exact fun B S c i v κ h1 h2 => mm_pwI rfl (by decide) h1 h2 κ
  · exact fun E B S c κ => mm_plI rfl κ
  · exact fun E B S c i κ h1 h2 => mm_prI rfl (by decide) h1 h2 κ
  · exact fun B S c i v κ h1 h2 => mm_pwI rfl (by decide) h1 h2 κ
  · exact fun E B S c κ => mm_plI rfl κ
  · exact fun E B S c i κ h1 h2 => mm_prI rfl (by decide) h1 h2 κ
  · exact fun B S c i v κ h1 h2 => mm_pwI rfl (by decide) h1 h2 κ
  · exact fun E B S c κ => mm_plI rfl κ
  · exact fun E B S c i κ h1 h2 => mm_prI rfl (by decide) h1 h2 κ
  · exact fun B S c i v κ h1 h2 => mm_pwI rfl (by decide) h1 h2 κ
  · exact fun E B S c κ => mm_plI rfl κ
  · exact fun E B S c i κ h1 h2 => mm_prI rfl (by decide) h1 h2 κ
  · exact fun B S c i v κ h1 h2 => mm_pwI rfl (by decide) h1 h2 κ
  · exact fun E B S c κ => mm_plI rfl κ
  · exact fun E B S c i κ h1 h2 => mm_prI rfl (by decide) h1 h2 κ
  · exact fun B S c i v κ h1 h2 => mm_pwI rfl (by decide) h1 h2 κ
  · exact fun E B S c κ => mm_plI rfl κ
  · exact fun E B S c i κ h1 h2 => mm_prI rfl (by decide) h1 h2 κ
  · exact fun B S c i v κ h1 h2 => mm_pwI rfl (by decide) h1 h2 κ
  · exact fun E B S c κ => mm_plI rfl κ
  · exact fun E B S c i κ h1 h2 => mm_prI rfl (by decide) h1 h2 κ
  · exact fun B S c i v κ h1 h2 => mm_pwI rfl (by decide) h1 h2 κ
  · exact fun E B S c κ => mm_plI rfl κ
  · exact fun E B S c i κ h1 h2 => mm_prI rfl (by decide) h1 h2 κ
  · exact fun B S c i v κ h1 h2 => mm_pwI rfl (by decide) h1 h2 κ
  · exact fun E B S c κ => mm_plI rfl κ
  · exact fun E B S c i κ h1 h2 => mm_prI rfl (by decide) h1 h2 κ
  · exact fun B S c i v κ h1 h2 => mm_pwI rfl (by decide) h1 h2 κ
  · exact fun E B S c κ => mm_plI rfl κ
  · exact fun E B S c i κ h1 h2 => mm_prI rfl (by decide) h1 h2 κ
  · exact fun B S c i v κ h1 h2 => mm_pwI rfl (by decide) h1 h2 κ
  · exact fun E B S c κ => mm_plI rfl κ
  · exact fun E B S c i κ h1 h2 => mm_prI rfl (by decide) h1 h2 κ
  · exact fun B S c i v κ h1 h2 => mm_pwI rfl (by decide) h1 h2 κ
  · exact fun E B S c κ => mm_plI rfl κ
  · exact fun E B S c i κ h1 h2 => mm_prI rfl (by decide) h1 h2 κ
  · exact fun B S c i v κ h1 h2 => mm_pwI rfl (by decide) h1 h2 κ
  · exact fun E B S c κ => mm_plI rfl κ
  · exact fun E B S c i κ h1 h2 => mm_prI rfl (by decide) h1 h2 κ
  · exact fun B S c i v κ h1 h2 => mm_pwI rfl (by decide) h1 h2 κ
  · exact fun E B S c κ => mm_plI rfl κ
  · exact fun E B S c i κ h1 h2 => mm_prI rfl (by decide) h1 h2 κ
  · exact fun B S c i v κ h1 h2 => mm_pwI rfl (by decide) h1 h2 κ
  · exact fun E B S c κ => mm_plI rfl κ
  · exact fun E B S c i κ h1 h2 => mm_prI rfl (by decide) h1 h2 κ
  · exact fun B S c i v κ h1 h2 => mm_pwI rfl (by decide) h1 h2 κ
  · exact fun E B S c κ => mm_plI rfl κ
theorem mm_ptO : (∀ (B : Nat) (S : mm_S) (c : mm_N) (i : Int) (κ : Int64 → mm_R), 0 ≤ i → i < 1 → mm_rJ (mm_hp B S c) (mm_ad B 123) (mm_i i) κ = κ (mm_j (S.L 123 i)))
    ∧ (∀ (B : Nat) (S : mm_S) (c : mm_N) (i v : Int) (κ : mm_H → mm_R), 0 ≤ i → i < 1 → mm_wJ (mm_hp B S c) (mm_ad B 123) (mm_i i) (mm_j v) κ = κ (mm_hp B (S.sL 123 (mm_u (S.L 123) i v)) c)) := by
  refine ⟨?_, ?_⟩
  · exact fun B S c i κ h1 h2 => mm_prJ rfl (by decide) h1 h2 κ
  · exact fun B S c i v κ h1 h2 => mm_pwJ rfl (by decide) h1 h2 κ
theorem mm_shN {a : Nat} (h : a = 3 ∨ a = 14 ∨ a = 25) : mm_sh a = some (.inl (3, [a + 1 + 2, a + 2 + 2, a + 3 + 2, a + 4 + 2, a + 5 + 2, a + 6 + 2, a + 7 + 2, a + 8 + 2, a + 9 + 2, a + 10 + 2, 0, 0, 0])) := by
  rcases h with rfl | rfl | rfl <;> rfl
theorem mm_shN1 {a : Nat} (h : a = 3 ∨ a = 14 ∨ a = 25) : mm_sh (a + 1) = some (.inr (.inl 84)) := by
  rcases h with rfl | rfl | rfl <;> rfl
theorem mm_shN2 {a : Nat} (h : a = 3 ∨ a = 14 ∨ a = 25) : mm_sh (a + 2) = some (.inr (.inl 72)) := by
  rcases h with rfl | rfl | rfl <;> rfl
theorem mm_shN3 {a : Nat} (h : a = 3 ∨ a = 14 ∨ a = 25) : mm_sh (a + 3) = some (.inr (.inl 12)) := by
  rcases h with rfl | rfl | rfl <;> rfl
theorem mm_shN4 {a : Nat} (h : a = 3 ∨ a = 14 ∨ a = 25) : mm_sh (a + 4) = some (.inr (.inl 12)) := by
  rcases h with rfl | rfl | rfl <;> rfl
theorem mm_shN5 {a : Nat} (h : a = 3 ∨ a = 14 ∨ a = 25) : mm_sh (a + 5) = some (.inr (.inl 12)) := by
  rcases h with rfl | rfl | rfl <;> rfl
theorem mm_shN6 {a : Nat} (h : a = 3 ∨ a = 14 ∨ a = 25) : mm_sh (a + 6) = some (.inr (.inl 480)) := by
  rcases h with rfl | rfl | rfl <;> rfl
theorem mm_shN7 {a : Nat} (h : a = 3 ∨ a = 14 ∨ a = 25) : mm_sh (a + 7) = some (.inr (.inl 12)) := by
  rcases h with rfl | rfl | rfl <;> rfl
theorem mm_shN8 {a : Nat} (h : a = 3 ∨ a = 14 ∨ a = 25) : mm_sh (a + 8) = some (.inr (.inl 12)) := by
  rcases h with rfl | rfl | rfl <;> rfl
theorem mm_shN9 {a : Nat} (h : a = 3 ∨ a = 14 ∨ a = 25) : mm_sh (a + 9) = some (.inr (.inl 12)) := by
  rcases h with rfl | rfl | rfl <;> rfl
theorem mm_shN10 {a : Nat} (h : a = 3 ∨ a = 14 ∨ a = 25) : mm_sh (a + 10) = some (.inr (.inl 12)) := by
  rcases h with rfl | rfl | rfl <;> rfl
theorem mm_ptN : (∀ (B : Nat) (S : mm_S) (c : mm_N) (a : Nat) (κ : Nat → mm_R), (a = 3 ∨ a = 14 ∨ a = 25) → mm_gR (mm_hp B S c) (mm_ad B a) 3 0 κ = κ (mm_ad B (a + 1)))
    ∧ (∀ (B : Nat) (S : mm_S) (c : mm_N) (a : Nat) (κ : Nat → mm_R), (a = 3 ∨ a = 14 ∨ a = 25) → mm_gR (mm_hp B S c) (mm_ad B a) 3 1 κ = κ (mm_ad B (a + 2)))
    ∧ (∀ (B : Nat) (S : mm_S) (c : mm_N) (a : Nat) (κ : Nat → mm_R), (a = 3 ∨ a = 14 ∨ a = 25) → mm_gR (mm_hp B S c) (mm_ad B a) 3 2 κ = κ (mm_ad B (a + 3)))
    ∧ (∀ (B : Nat) (S : mm_S) (c : mm_N) (a : Nat) (κ : Nat → mm_R), (a = 3 ∨ a = 14 ∨ a = 25) → mm_gR (mm_hp B S c) (mm_ad B a) 3 3 κ = κ (mm_ad B (a + 4)))
    ∧ (∀ (B : Nat) (S : mm_S) (c : mm_N) (a : Nat) (κ : Nat → mm_R), (a = 3 ∨ a = 14 ∨ a = 25) → mm_gR (mm_hp B S c) (mm_ad B a) 3 4 κ = κ (mm_ad B (a + 5)))
    ∧ (∀ (B : Nat) (S : mm_S) (c : mm_N) (a : Nat) (κ : Nat → mm_R), (a = 3 ∨ a = 14 ∨ a = 25) → mm_gR (mm_hp B S c) (mm_ad B a) 3 5 κ = κ (mm_ad B (a + 6)))
    ∧ (∀ (B : Nat) (S : mm_S) (c : mm_N) (a : Nat) (κ : Nat → mm_R), (a = 3 ∨ a = 14 ∨ a = 25) → mm_gR (mm_hp B S c) (mm_ad B a) 3 6 κ = κ (mm_ad B (a + 7)))
    ∧ (∀ (B : Nat) (S : mm_S) (c : mm_N) (a : Nat) (κ : Nat → mm_R), (a = 3 ∨ a = 14 ∨ a = 25) → mm_gR (mm_hp B S c) (mm_ad B a) 3 7 κ = κ (mm_ad B (a + 8)))
    ∧ (∀ (B : Nat) (S : mm_S) (c : mm_N) (a : Nat) (κ : Nat → mm_R), (a = 3 ∨ a = 14 ∨ a = 25) → mm_gR (mm_hp B S c) (mm_ad B a) 3 8 κ = κ (mm_ad B (a + 9)))
    ∧ (∀ (B : Nat) (S : mm_S) (c : mm_N) (a : Nat) (κ : Nat → mm_R), (a = 3 ∨ a = 14 ∨ a = 25) → mm_gR (mm_hp B S c) (mm_ad B a) 3 9 κ = κ (mm_ad B (a + 10)))
    ∧ (∀ (B : Nat) (S : mm_S) (c : mm_N) (a : Nat) (κ : Int32 → mm_R), (a = 3 ∨ a = 14 ∨ a = 25) → mm_gI (mm_hp B S c) (mm_ad B a) 3 10 κ = κ (mm_i (S.I a 10)))
    ∧ (∀ (B : Nat) (S : mm_S) (c : mm_N) (a : Nat) (v : Int) (κ : mm_H → mm_R), (a = 3 ∨ a = 14 ∨ a = 25) → mm_pF (mm_hp B S c) (mm_ad B a) 3 10 (.int (mm_i v)) κ = κ (mm_hp B (S.sI a 10 v) c))
    ∧ (∀ (B : Nat) (S : mm_S) (c : mm_N) (a : Nat) (κ : Int32 → mm_R), (a = 3 ∨ a = 14 ∨ a = 25) → mm_gI (mm_hp B S c) (mm_ad B a) 3 11 κ = κ (mm_i (S.I a 11)))
    ∧ (∀ (B : Nat) (S : mm_S) (c : mm_N) (a : Nat) (v : Int) (κ : mm_H → mm_R), (a = 3 ∨ a = 14 ∨ a = 25) → mm_pF (mm_hp B S c) (mm_ad B a) 3 11 (.int (mm_i v)) κ = κ (mm_hp B (S.sI a 11 v) c))
    ∧ (∀ (B : Nat) (S : mm_S) (c : mm_N) (a : Nat) (κ : Int32 → mm_R), (a = 3 ∨ a = 14 ∨ a = 25) → mm_gI (mm_hp B S c) (mm_ad B a) 3 12 κ = κ (mm_i (S.I a 12)))
    ∧ (∀ (B : Nat) (S : mm_S) (c : mm_N) (a : Nat) (v : Int) (κ : mm_H → mm_R), (a = 3 ∨ a = 14 ∨ a = 25) → mm_pF (mm_hp B S c) (mm_ad B a) 3 12 (.int (mm_i v)) κ = κ (mm_hp B (S.sI a 12 v) c))
    ∧ (∀ (E : mm_E) (B : Nat) (S : mm_S) (c : mm_N) (a : Nat) (i : Int) (κ : Int32 → mm_R), (a = 3 ∨ a = 14 ∨ a = 25) → 0 ≤ i → i < 84 → mm_rI E (mm_hp B S c) (mm_ad B (a + 1)) (mm_i i) κ = κ (mm_i (S.A (a + 1) i)))
    ∧ (∀ (B : Nat) (S : mm_S) (c : mm_N) (a : Nat) (i v : Int) (κ : mm_H → mm_R), (a = 3 ∨ a = 14 ∨ a = 25) → 0 ≤ i → i < 84 → mm_wI (mm_hp B S c) (mm_ad B (a + 1)) (mm_i i) (mm_i v) κ = κ (mm_hp B (S.sA (a + 1) (mm_u (S.A (a + 1)) i v)) c))
    ∧ (∀ (E : mm_E) (B : Nat) (S : mm_S) (c : mm_N) (a : Nat) (κ : Int32 → mm_R), (a = 3 ∨ a = 14 ∨ a = 25) → mm_ln E (mm_hp B S c) (mm_ad B (a + 1)) κ = κ (mm_i 84))
    ∧ (∀ (E : mm_E) (B : Nat) (S : mm_S) (c : mm_N) (a : Nat) (i : Int) (κ : Int32 → mm_R), (a = 3 ∨ a = 14 ∨ a = 25) → 0 ≤ i → i < 72 → mm_rI E (mm_hp B S c) (mm_ad B (a + 2)) (mm_i i) κ = κ (mm_i (S.A (a + 2) i)))
    ∧ (∀ (B : Nat) (S : mm_S) (c : mm_N) (a : Nat) (i v : Int) (κ : mm_H → mm_R), (a = 3 ∨ a = 14 ∨ a = 25) → 0 ≤ i → i < 72 → mm_wI (mm_hp B S c) (mm_ad B (a + 2)) (mm_i i) (mm_i v) κ = κ (mm_hp B (S.sA (a + 2) (mm_u (S.A (a + 2)) i v)) c))
    ∧ (∀ (E : mm_E) (B : Nat) (S : mm_S) (c : mm_N) (a : Nat) (κ : Int32 → mm_R), (a = 3 ∨ a = 14 ∨ a = 25) → mm_ln E (mm_hp B S c) (mm_ad B (a + 2)) κ = κ (mm_i 72))
    ∧ (∀ (E : mm_E) (B : Nat) (S : mm_S) (c : mm_N) (a : Nat) (i : Int) (κ : Int32 → mm_R), (a = 3 ∨ a = 14 ∨ a = 25) → 0 ≤ i → i < 12 → mm_rI E (mm_hp B S c) (mm_ad B (a + 3)) (mm_i i) κ = κ (mm_i (S.A (a + 3) i)))
    ∧ (∀ (B : Nat) (S : mm_S) (c : mm_N) (a : Nat) (i v : Int) (κ : mm_H → mm_R), (a = 3 ∨ a = 14 ∨ a = 25) → 0 ≤ i → i < 12 → mm_wI (mm_hp B S c) (mm_ad B (a + 3)) (mm_i i) (mm_i v) κ = κ (mm_hp B (S.sA (a + 3) (mm_u (S.A (a + 3)) i v)) c))
    ∧ (∀ (E : mm_E) (B : Nat) (S : mm_S) (c : mm_N) (a : Nat) (κ : Int32 → mm_R), (a = 3 ∨ a = 14 ∨ a = 25) → mm_ln E (mm_hp B S c) (mm_ad B (a + 3)) κ = κ (mm_i 12))
    ∧ (∀ (E : mm_E) (B : Nat) (S : mm_S) (c : mm_N) (a : Nat) (i : Int) (κ : Int32 → mm_R), (a = 3 ∨ a = 14 ∨ a = 25) → 0 ≤ i → i < 12 → mm_rI E (mm_hp B S c) (mm_ad B (a + 4)) (mm_i i) κ = κ (mm_i (S.A (a + 4) i)))
    ∧ (∀ (B : Nat) (S : mm_S) (c : mm_N) (a : Nat) (i v : Int) (κ : mm_H → mm_R), (a = 3 ∨ a = 14 ∨ a = 25) → 0 ≤ i → i < 12 → mm_wI (mm_hp B S c) (mm_ad B (a + 4)) (mm_i i) (mm_i v) κ = κ (mm_hp B (S.sA (a + 4) (mm_u (S.A (a + 4)) i v)) c))
    ∧ (∀ (E : mm_E) (B : Nat) (S : mm_S) (c : mm_N) (a : Nat) (κ : Int32 → mm_R), (a = 3 ∨ a = 14 ∨ a = 25) → mm_ln E (mm_hp B S c) (mm_ad B (a + 4)) κ = κ (mm_i 12))
    ∧ (∀ (E : mm_E) (B : Nat) (S : mm_S) (c : mm_N) (a : Nat) (i : Int) (κ : Int32 → mm_R), (a = 3 ∨ a = 14 ∨ a = 25) → 0 ≤ i → i < 12 → mm_rI E (mm_hp B S c) (mm_ad B (a + 5)) (mm_i i) κ = κ (mm_i (S.A (a + 5) i)))
    ∧ (∀ (B : Nat) (S : mm_S) (c : mm_N) (a : Nat) (i v : Int) (κ : mm_H → mm_R), (a = 3 ∨ a = 14 ∨ a = 25) → 0 ≤ i → i < 12 → mm_wI (mm_hp B S c) (mm_ad B (a + 5)) (mm_i i) (mm_i v) κ = κ (mm_hp B (S.sA (a + 5) (mm_u (S.A (a + 5)) i v)) c))
    ∧ (∀ (E : mm_E) (B : Nat) (S : mm_S) (c : mm_N) (a : Nat) (κ : Int32 → mm_R), (a = 3 ∨ a = 14 ∨ a = 25) → mm_ln E (mm_hp B S c) (mm_ad B (a + 5)) κ = κ (mm_i 12))
    ∧ (∀ (E : mm_E) (B : Nat) (S : mm_S) (c : mm_N) (a : Nat) (i : Int) (κ : Int32 → mm_R), (a = 3 ∨ a = 14 ∨ a = 25) → 0 ≤ i → i < 480 → mm_rI E (mm_hp B S c) (mm_ad B (a + 6)) (mm_i i) κ = κ (mm_i (S.A (a + 6) i)))
    ∧ (∀ (B : Nat) (S : mm_S) (c : mm_N) (a : Nat) (i v : Int) (κ : mm_H → mm_R), (a = 3 ∨ a = 14 ∨ a = 25) → 0 ≤ i → i < 480 → mm_wI (mm_hp B S c) (mm_ad B (a + 6)) (mm_i i) (mm_i v) κ = κ (mm_hp B (S.sA (a + 6) (mm_u (S.A (a + 6)) i v)) c))
    ∧ (∀ (E : mm_E) (B : Nat) (S : mm_S) (c : mm_N) (a : Nat) (κ : Int32 → mm_R), (a = 3 ∨ a = 14 ∨ a = 25) → mm_ln E (mm_hp B S c) (mm_ad B (a + 6)) κ = κ (mm_i 480))
    ∧ (∀ (E : mm_E) (B : Nat) (S : mm_S) (c : mm_N) (a : Nat) (i : Int) (κ : Int32 → mm_R), (a = 3 ∨ a = 14 ∨ a = 25) → 0 ≤ i → i < 12 → mm_rI E (mm_hp B S c) (mm_ad B (a + 7)) (mm_i i) κ = κ (mm_i (S.A (a + 7) i)))
    ∧ (∀ (B : Nat) (S : mm_S) (c : mm_N) (a : Nat) (i v : Int) (κ : mm_H → mm_R), (a = 3 ∨ a = 14 ∨ a = 25) → 0 ≤ i → i < 12 → mm_wI (mm_hp B S c) (mm_ad B (a + 7)) (mm_i i) (mm_i v) κ = κ (mm_hp B (S.sA (a + 7) (mm_u (S.A (a + 7)) i v)) c))
    ∧ (∀ (E : mm_E) (B : Nat) (S : mm_S) (c : mm_N) (a : Nat) (κ : Int32 → mm_R), (a = 3 ∨ a = 14 ∨ a = 25) → mm_ln E (mm_hp B S c) (mm_ad B (a + 7)) κ = κ (mm_i 12))
    ∧ (∀ (E : mm_E) (B : Nat) (S : mm_S) (c : mm_N) (a : Nat) (i : Int) (κ : Int32 → mm_R), (a = 3 ∨ a = 14 ∨ a = 25) → 0 ≤ i → i < 12 → mm_rI E (mm_hp B S c) (mm_ad B (a + 8)) (mm_i i) κ = κ (mm_i (S.A (a + 8) i)))
    ∧ (∀ (B : Nat) (S : mm_S) (c : mm_N) (a : Nat) (i v : Int) (κ : mm_H → mm_R), (a = 3 ∨ a = 14 ∨ a = 25) → 0 ≤ i → i < 12 → mm_wI (mm_hp B S c) (mm_ad B (a + 8)) (mm_i i) (mm_i v) κ = κ (mm_hp B (S.sA (a + 8) (mm_u (S.A (a + 8)) i v)) c))
    ∧ (∀ (E : mm_E) (B : Nat) (S : mm_S) (c : mm_N) (a : Nat) (κ : Int32 → mm_R), (a = 3 ∨ a = 14 ∨ a = 25) → mm_ln E (mm_hp B S c) (mm_ad B (a + 8)) κ = κ (mm_i 12))
    ∧ (∀ (E : mm_E) (B : Nat) (S : mm_S) (c : mm_N) (a : Nat) (i : Int) (κ : Int32 → mm_R), (a = 3 ∨ a = 14 ∨ a = 25) → 0 ≤ i → i < 12 → mm_rI E (mm_hp B S c) (mm_ad B (a + 9)) (mm_i i) κ = κ (mm_i (S.A (a + 9) i)))
    ∧ (∀ (B : Nat) (S : mm_S) (c : mm_N) (a : Nat) (i v : Int) (κ : mm_H → mm_R), (a = 3 ∨ a = 14 ∨ a = 25) → 0 ≤ i → i < 12 → mm_wI (mm_hp B S c) (mm_ad B (a + 9)) (mm_i i) (mm_i v) κ = κ (mm_hp B (S.sA (a + 9) (mm_u (S.A (a + 9)) i v)) c))
    ∧ (∀ (E : mm_E) (B : Nat) (S : mm_S) (c : mm_N) (a : Nat) (κ : Int32 → mm_R), (a = 3 ∨ a = 14 ∨ a = 25) → mm_ln E (mm_hp B S c) (mm_ad B (a + 9)) κ = κ (mm_i 12))
    ∧ (∀ (E : mm_E) (B : Nat) (S : mm_S) (c : mm_N) (a : Nat) (i : Int) (κ : Int32 → mm_R), (a = 3 ∨ a = 14 ∨ a = 25) → 0 ≤ i → i < 12 → mm_rI E (mm_hp B S c) (mm_ad B (a + 10)) (mm_i i) κ = κ (mm_i (S.A (a + 10) i)))
    ∧ (∀ (B : Nat) (S : mm_S) (c : mm_N) (a : Nat) (i v : Int) (κ : mm_H → mm_R), (a = 3 ∨ a = 14 ∨ a = 25) → 0 ≤ i → i < 12 → mm_wI (mm_hp B S c) (mm_ad B (a + 10)) (mm_i i) (mm_i v) κ = κ (mm_hp B (S.sA (a + 10) (mm_u (S.A (a + 10)) i v)) c))
    ∧ (∀ (E : mm_E) (B : Nat) (S : mm_S) (c : mm_N) (a : Nat) (κ : Int32 → mm_R), (a = 3 ∨ a = 14 ∨ a = 25) → mm_ln E (mm_hp B S c) (mm_ad B (a + 10)) κ = κ (mm_i 12)) := by
  refine ⟨?_, ?_, ?_, ?_, ?_, ?_, ?_, ?_, ?_, ?_, ?_, ?_, ?_, ?_, ?_, ?_, ?_, ?_, ?_, ?_, ?_, ?_, ?_, ?_, ?_, ?_, ?_, ?_, ?_, ?_, ?_, ?_, ?_, ?_, ?_, ?_, ?_, ?_, ?_, ?_, ?_, ?_, ?_, ?_, ?_, ?_⟩
  · exact fun B S c a κ h => mm_pgR (mm_shN h) rfl κ
  · exact fun B S c a κ h => mm_pgR (mm_shN h) rfl κ
  · exact fun B S c a κ h => mm_pgR (mm_shN h) rfl κ
  · exact fun B S c a κ h => mm_pgR (mm_shN h) rfl κ
  · exact fun B S c a κ h => mm_pgR (mm_shN h) rfl κ
  · exact fun B S c a κ h => mm_pgR (mm_shN h) rfl κ
  · exact fun B S c a κ h => mm_pgR (mm_shN h) rfl κ
  · exact fun B S c a κ h => mm_pgR (mm_shN h) rfl κ
  · exact fun B S c a κ h => mm_pgR (mm_shN h) rfl κ
  · exact fun B S c a κ h => mm_pgR (mm_shN h) rfl κ
  · exact fun B S c a κ h => mm_pgI (mm_shN h) rfl κ
  · exact fun B S c a v κ h => mm_ppI (mm_shN h) rfl κ
  · exact fun B S c a κ h => mm_pgI (mm_shN h) rfl κ
  · exact fun B S c a v κ h => mm_ppI (mm_shN h) rfl κ
  · exact fun B S c a κ h => mm_pgI (mm_shN h) rfl κ
  · exact fun B S c a v κ h => mm_ppI (mm_shN h) rfl κ
  · exact fun E B S c a i κ h h1 h2 => mm_prI (mm_shN1 h) (by decide) h1 h2 κ
  · exact fun B S c a i v κ h h1 h2 => mm_pwI (mm_shN1 h) (by decide) h1 h2 κ
  · exact fun E B S c a κ h => mm_plI (mm_shN1 h) κ
  · exact fun E B S c a i κ h h1 h2 => mm_prI (mm_shN2 h) (by decide) h1 h2 κ
  · exact fun B S c a i v κ h h1 h2 => mm_pwI (mm_shN2 h) (by decide) h1 h2 κ
  · exact fun E B S c a κ h => mm_plI (mm_shN2 h) κ
  · exact fun E B S c a i κ h h1 h2 => mm_prI (mm_shN3 h) (by decide) h1 h2 κ
  · exact fun B S c a i v κ h h1 h2 => mm_pwI (mm_shN3 h) (by decide) h1 h2 κ
  · exact fun E B S c a κ h => mm_plI (mm_shN3 h) κ
  · exact fun E B S c a i κ h h1 h2 => mm_prI (mm_shN4 h) (by decide) h1 h2 κ
  · exact fun B S c a i v κ h h1 h2 => mm_pwI (mm_shN4 h) (by decide) h1 h2 κ
  · exact fun E B S c a κ h => mm_plI (mm_shN4 h) κ
  · exact fun E B S c a i κ h h1 h2 => mm_prI (mm_shN5 h) (by decide) h1 h2 κ
  · exact fun B S c a i v κ h h1 h2 => mm_pwI (mm_shN5 h) (by decide) h1 h2 κ
  · exact fun E B S c a κ h => mm_plI (mm_shN5 h) κ
  · exact fun E B S c a i κ h h1 h2 => mm_prI (mm_shN6 h) (by decide) h1 h2 κ
  · exact fun B S c a i v κ h h1 h2 => mm_pwI (mm_shN6 h) (by decide) h1 h2 κ
  · exact fun E B S c a κ h => mm_plI (mm_shN6 h) κ
  · exact fun E B S c a i κ h h1 h2 => mm_prI (mm_shN7 h) (by decide) h1 h2 κ
  · exact fun B S c a i v κ h h1 h2 => mm_pwI (mm_shN7 h) (by decide) h1 h2 κ
  · exact fun E B S c a κ h => mm_plI (mm_shN7 h) κ
  · exact fun E B S c a i κ h h1 h2 => mm_prI (mm_shN8 h) (by decide) h1 h2 κ
  · exact fun B S c a i v κ h h1 h2 => mm_pwI (mm_shN8 h) (by decide) h1 h2 κ
  · exact fun E B S c a κ h => mm_plI (mm_shN8 h) κ
  · exact fun E B S c a i κ h h1 h2 => mm_prI (mm_shN9 h) (by decide) h1 h2 κ
  · exact fun B S c a i v κ h h1 h2 => mm_pwI (mm_shN9 h) (by decide) h1 h2 κ
  · exact fun E B S c a κ h => mm_plI (mm_shN9 h) κ
  · exact fun E B S c a i κ h h1 h2 => mm_prI (mm_shN10 h) (by decide) h1 h2 κ
  · exact fun B S c a i v κ h h1 h2 => mm_pwI (mm_shN10 h) (by decide) h1 h2 κ
  · exact fun E B S c a κ h => mm_plI (mm_shN10 h) κ
theorem mm_shR_all : (List.range 91).all (fun a => bif decide (42 ≤ a ∧ a ≤ 90 ∧ a % 3 = 0 ∧ a ≠ 54) then decide (mm_sh a = some (.inl (5, [a + 1 + 2, a + 2 + 2]))) && (bif Nat.beq a 51 then true else decide (mm_sh (a + 1) = some (.inr (.inr (.inl 120)))) && decide (mm_sh (a + 2) = some (.inr (.inr (.inl 120))))) else true) = true := by decide +kernel
theorem mm_shR {a : Nat} (h : (42 ≤ a ∧ a ≤ 90 ∧ a % 3 = 0 ∧ a ≠ 54)) : mm_sh a = some (.inl (5, [a + 1 + 2, a + 2 + 2])) := by
  have g := List.all_eq_true.mp mm_shR_all a (List.mem_range.mpr (by omega))
  rw [decide_eq_true h] at g
  exact of_decide_eq_true (Bool.and_eq_true_iff.mp g).1
theorem mm_shRR {a : Nat} (h : (42 ≤ a ∧ a ≤ 90 ∧ a % 3 = 0 ∧ a ≠ 51 ∧ a ≠ 54)) : mm_sh (a + 1) = some (.inr (.inr (.inl 120))) ∧ mm_sh (a + 2) = some (.inr (.inr (.inl 120))) := by
  have g := List.all_eq_true.mp mm_shR_all a (List.mem_range.mpr (by omega))
  rw [decide_eq_true (by omega : (42 ≤ a ∧ a ≤ 90 ∧ a % 3 = 0 ∧ a ≠ 54))] at g
  have g := (Bool.and_eq_true_iff.mp g).2
  rw [show Nat.beq a 51 = false from Bool.eq_false_iff.mpr (fun z => absurd (Nat.eq_of_beq_eq_true z) (by omega))] at g
  exact ⟨of_decide_eq_true (Bool.and_eq_true_iff.mp g).1, of_decide_eq_true (Bool.and_eq_true_iff.mp g).2⟩
theorem mm_ptR : (∀ (B : Nat) (S : mm_S) (c : mm_N) (a : Nat) (κ : Nat → mm_R), (42 ≤ a ∧ a ≤ 90 ∧ a % 3 = 0 ∧ a ≠ 54) → mm_gR (mm_hp B S c) (mm_ad B a) 5 0 κ = κ (mm_ad B (a + 1)))
    ∧ (∀ (B : Nat) (S : mm_S) (c : mm_N) (a : Nat) (κ : Nat → mm_R), (42 ≤ a ∧ a ≤ 90 ∧ a % 3 = 0 ∧ a ≠ 54) → mm_gR (mm_hp B S c) (mm_ad B a) 5 1 κ = κ (mm_ad B (a + 2)))
    ∧ (∀ (B : Nat) (S : mm_S) (c : mm_N) (a : Nat) (i : Int) (κ : Int64 → mm_R), (42 ≤ a ∧ a ≤ 90 ∧ a % 3 = 0 ∧ a ≠ 51 ∧ a ≠ 54) → 0 ≤ i → i < 120 → mm_rJ (mm_hp B S c) (mm_ad B (a + 1)) (mm_i i) κ = κ (mm_j (S.L (a + 1) i)))
    ∧ (∀ (B : Nat) (S : mm_S) (c : mm_N) (a : Nat) (i v : Int) (κ : mm_H → mm_R), (42 ≤ a ∧ a ≤ 90 ∧ a % 3 = 0 ∧ a ≠ 51 ∧ a ≠ 54) → 0 ≤ i → i < 120 → mm_wJ (mm_hp B S c) (mm_ad B (a + 1)) (mm_i i) (mm_j v) κ = κ (mm_hp B (S.sL (a + 1) (mm_u (S.L (a + 1)) i v)) c))
    ∧ (∀ (B : Nat) (S : mm_S) (c : mm_N) (a : Nat) (i : Int) (κ : Int64 → mm_R), (42 ≤ a ∧ a ≤ 90 ∧ a % 3 = 0 ∧ a ≠ 51 ∧ a ≠ 54) → 0 ≤ i → i < 120 → mm_rJ (mm_hp B S c) (mm_ad B (a + 2)) (mm_i i) κ = κ (mm_j (S.L (a + 2) i)))
    ∧ (∀ (B : Nat) (S : mm_S) (c : mm_N) (a : Nat) (i v : Int) (κ : mm_H → mm_R), (42 ≤ a ∧ a ≤ 90 ∧ a % 3 = 0 ∧ a ≠ 51 ∧ a ≠ 54) → 0 ≤ i → i < 120 → mm_wJ (mm_hp B S c) (mm_ad B (a + 2)) (mm_i i) (mm_j v) κ = κ (mm_hp B (S.sL (a + 2) (mm_u (S.L (a + 2)) i v)) c))
    ∧ (∀ (B : Nat) (S : mm_S) (c : mm_N) (i : Int) (κ : Int64 → mm_R), 0 ≤ i → i < 1 → mm_rJ (mm_hp B S c) (mm_ad B 52) (mm_i i) κ = κ (mm_j (S.L 52 i)))
    ∧ (∀ (B : Nat) (S : mm_S) (c : mm_N) (i v : Int) (κ : mm_H → mm_R), 0 ≤ i → i < 1 → mm_wJ (mm_hp B S c) (mm_ad B 52) (mm_i i) (mm_j v) κ = κ (mm_hp B (S.sL 52 (mm_u (S.L 52) i v)) c))
    ∧ (∀ (B : Nat) (S : mm_S) (c : mm_N) (i : Int) (κ : Int64 → mm_R), 0 ≤ i → i < 1 → mm_rJ (mm_hp B S c) (mm_ad B 53) (mm_i i) κ = κ (mm_j (S.L 53 i)))
    ∧ (∀ (B : Nat) (S : mm_S) (c : mm_N) (i v : Int) (κ : mm_H → mm_R), 0 ≤ i → i < 1 → mm_wJ (mm_hp B S c) (mm_ad B 53) (mm_i i) (mm_j v) κ = κ (mm_hp B (S.sL 53 (mm_u (S.L 53) i v)) c)) := by
  refine ⟨?_, ?_, ?_, ?_, ?_, ?_, ?_, ?_, ?_, ?_⟩
  · exact fun B S c a κ h => mm_pgR (mm_shR h) rfl κ
  · exact fun B S c a κ h => mm_pgR (mm_shR h) rfl κ
  · exact fun B S c a i κ h h1 h2 => mm_prJ (mm_shRR h).1 (by decide) h1 h2 κ
  · exact fun B S c a i v κ h h1 h2 => mm_pwJ (mm_shRR h).1 (by decide) h1 h2 κ
  · exact fun B S c a i κ h h1 h2 => mm_prJ (mm_shRR h).2 (by decide) h1 h2 κ
  · exact fun B S c a i v κ h h1 h2 => mm_pwJ (mm_shRR h).2 (by decide) h1 h2 κ
  · exact fun B S c i κ h1 h2 => mm_prJ rfl (by decide) h1 h2 κ
  · exact fun B S c i v κ h1 h2 => mm_pwJ rfl (by decide) h1 h2 κ
  · exact fun B S c i κ h1 h2 => mm_prJ rfl (by decide) h1 h2 κ
  · exact fun B S c i v κ h1 h2 => mm_pwJ rfl (by decide) h1 h2 κ
theorem mm_ptRR (B : Nat) (S : mm_S) (c : mm_N) (s : Int) (κ : Nat → mm_R) (h0 : 0 ≤ s) (h1 : s < 12) : mm_rR (mm_hp B S c) (mm_ad B 41) (mm_i s) κ = κ (mm_ad B (57 + 3 * s.toNat)) := by
  refine mm_prR (l := [57, 60, 63, 66, 69, 72, 75, 78, 81, 84, 87, 90]) rfl (by decide) h0 ?_ κ
  have g : ∀ k, k < 12 → ([57, 60, 63, 66, 69, 72, 75, 78, 81, 84, 87, 90] : List Nat)[k]? = some (57 + 3 * k) := by decide
  exact g s.toNat (by omega)
