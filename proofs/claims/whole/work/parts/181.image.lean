/-! IMAGE -/
def iv_okV (E : mm_E) (B d : Nat) (S : mm_S) (k J : Nat) (as : List Value) (K : Nat) (bs : List Value) : Prop := ∀ c : mm_N, ∃ S1 S2 : mm_S, mm_ev E d J as (mm_hp B S c) = mm_oV (mm_hp B S1 c) ∧ mm_ev E d K bs (mm_hp B S1 c) = mm_oV (mm_hp B S2 c) ∧ iv S2 (k + 1)
section
variable {E : mm_E} {d B : Nat} {S : mm_S} {k : Nat}
def iv_kI (x k : Nat) : Prop := (x = 0 ∧ k = 12) ∨ (x = 25 ∧ (k = 10 ∨ k = 11)) ∨ (x = 101 ∧ k = 24)
def iv_kA (x : Nat) : Prop := (26 ≤ x ∧ x ≤ 31) ∨ x = 35 ∨ (119 ≤ x ∧ x ≤ 121)
/-- the image changed -/
theorem iv_kp {T : mm_S} (h : iv S k) (hI : ∀ x k, iv_rI x k → ¬ iv_kI x k → T.I x k = S.I x k) (hA : ∀ x, iv_rA x → ¬ iv_kA x → T.A x = S.A x) (hK : iv_KP T) (h35 : ∀ s : Int, 0 ≤ s → s < 12 → 0 ≤ T.A 35 s ∧ T.A 35 s ≤ 200) (h2 : T.I 0 12 = 1 → iv_R2 (T.A 119)) : iv T k := by
  have g : iv ((((((((((((((S.sI 0 12 (T.I 0 12)).sI 25 10 (T.I 25 10)).sI 25 11 (T.I 25 11)).sI 101 24 (T.I 101 24)).sA 26 (T.A 26)).sA 27 (T.A 27)).sA 28 (T.A 28)).sA 29 (T.A 29)).sA 30 (T.A 30)).sA 31 (T.A 31)).sA 35 (T.A 35)).sA 119 (T.A 119)).sA 120 (T.A 120)).sA 121 (T.A 121)) k := ⟨h.1, h.2.1, h.2.2.1, hK, fun s s0 s1 => ⟨(h.2.2.2.2.1 s s0 s1).1, (h.2.2.2.2.1 s s0 s1).2.1, h35 s s0 s1⟩, h.2.2.2.2.2.1, h.2.2.2.2.2.2.1, h.2.2.2.2.2.2.2.1, h.2.2.2.2.2.2.2.2.1, h.2.2.2.2.2.2.2.2.2.1, h.2.2.2.2.2.2.2.2.2.2.1, h2⟩
  refine iv_fr g (fun x k hx => ?_) (fun x hx => ?_)
  · by_cases e : iv_kI x k
    · unfold iv_kI at e
      rcases (by omega : (x = 0 ∧ k = 12) ∨ (x = 25 ∧ k = 10) ∨ (x = 25 ∧ k = 11) ∨ (x = 101 ∧ k = 24)) with ⟨rfl, rfl⟩ | ⟨rfl, rfl⟩ | ⟨rfl, rfl⟩ | ⟨rfl, rfl⟩ <;> rfl
    · show T.I x k = ((((S.sI 0 12 _).sI 25 10 _).sI 25 11 _).sI 101 24 _).I x k
      rw [hI x k hx e]
      unfold iv_kI at e
      rw [mm_gI_ne (by omega), mm_gI_ne (by omega), mm_gI_ne (by omega), mm_gI_ne (by omega)]
  · by_cases e : iv_kA x
    · unfold iv_kA at e
      rcases (by omega : x = 26 ∨ x = 27 ∨ x = 28 ∨ x = 29 ∨ x = 30 ∨ x = 31 ∨ x = 35 ∨ x = 119 ∨ x = 120 ∨ x = 121) with rfl | rfl | rfl | rfl | rfl | rfl | rfl | rfl | rfl | rfl <;> rfl
    · rw [hA x hx e]
      unfold iv_kA at e
      rw [mm_gA_ne (by omega), mm_gA_ne (by omega), mm_gA_ne (by omega), mm_gA_ne (by omega), mm_gA_ne (by omega), mm_gA_ne (by omega), mm_gA_ne (by omega), mm_gA_ne (by omega), mm_gA_ne (by omega), mm_gA_ne (by omega)]
      rfl
end
