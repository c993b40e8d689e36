/-! CLASS AND MODEL TOGETHER: what holds between calls -/
def iv_TP (S : mm_S) : Prop := S.I 101 26 = S.I 1 1 ∧ 0 ≤ S.I 1 1 ∧ S.I 1 1 ≤ 400 ∧ ∀ i : Int, 0 ≤ i → i < S.I 1 1 → S.A 122 i = S.A 2 i ∧ 0 ≤ S.A 2 i ∧ S.A 2 i ≤ 255
def iv_NW (S : mm_S) : Prop := pp_RO (S.A 102) ∧ pp_EQ S 3 (S.A 102) ∧ pp_NT S 3
/-- times and demands of a Net and of two rows -/
def iv_TD (n : Int) (t t' d d' : Int → Int) : Prop := (∀ s : Int, 0 ≤ s → s < 12 → t' s = t s ∧ 0 ≤ t s ∧ t s ≤ 119 ∧ (n ≤ s → t s = 0)) ∧ (∀ i : Int, 0 ≤ i → i < 480 → d' i = d i ∧ 0 ≤ d i ∧ d i ≤ 999 ∧ (n * 40 ≤ i → d i = 0))
def iv_KP (S : mm_S) : Prop := (S.I 0 12 = 0 ∨ S.I 0 12 = 1) ∧ S.I 101 24 = S.I 0 12 ∧ (S.I 0 12 = 1 → pp_RO (S.A 119) ∧ pp_EQ S 25 (S.A 119) ∧ iv_TD (S.I 25 10) (S.A 30) (S.A 120) (S.A 31) (S.A 121))
def iv_DR (S : mm_S) : Prop := (∀ s : Int, 0 ≤ s → s < 12 → pp_tR (S.A 15) s ∧ (0 ≤ S.A 24 s ∧ S.A 24 s ≤ 200) ∧ (0 ≤ S.A 35 s ∧ S.A 35 s ≤ 200))
/-- an act leads from row f back to row g -/
def iv_st (k s w : Int) (f g : Int → Int) : Prop := ((0 ≤ k ∧ k < 7) ∧ (0 ≤ s ∧ s < f 0) ∧ (pp_ml k ≤ w ∧ w ≤ pp_mo k) ∧ ∀ i : Int, 0 ≤ i → i < 190 → g i = if i = 3 + 7 * s + k then w else f i)
  ∨ (k = 7 ∧ (0 ≤ w ∧ w ≤ 400) ∧ ∀ i : Int, 0 ≤ i → i < 190 → g i = if i = 1 then w else f i)
  ∨ (k = 8 ∧ f 0 = g 0 + 1 ∧ g 1 = f 1 ∧ f 2 = g 2 + 1 ∧ (∀ l : Int, 0 ≤ l → l < g 2 → f (159 + 2 * l) = g (159 + 2 * l) ∧ f (159 + 2 * l + 1) = g (159 + 2 * l + 1)) ∧ (f (159 + 2 * g 2) = g 0 ∨ f (159 + 2 * g 2 + 1) = g 0) ∧ pp_sT (g 0) g f ∧ pp_sN (g 0) g f)
  ∨ (k = 9 ∧ f 0 = g 0 ∧ g 1 = f 1 ∧ pp_aP s w g f ∧ (0 ≤ s ∧ s < g 0) ∧ (0 ≤ w ∧ w < g 0) ∧ mm_bt (mm_sup g w) s = false ∧ pp_sT (g 0) g f ∧ pp_sN (g 0) g f)
/-- the row of the model that stood r acts in -/
def iv_rw (S : mm_S) (r : Int) : Int → Int := fun i => S.A 104 (190 * r + i)
def iv_sl (S : mm_S) (r : Int) : Int := (S.I 36 4 - S.I 36 3 + r) % 20
def iv_AC (S : mm_S) : Prop := S.I 101 4 = S.I 36 3 ∧ (0 ≤ S.I 36 3 ∧ S.I 36 3 ≤ 20) ∧ (0 ≤ S.I 36 4 ∧ S.I 36 4 < 20) ∧ (∀ r : Int, 0 ≤ r → r < S.I 36 3 → pp_RO (iv_rw S r) ∧ iv_st (S.A 37 (iv_sl S r)) (S.A 38 (iv_sl S r)) (S.A 39 (iv_sl S r)) (if r + 1 = S.I 36 3 then S.A 102 else iv_rw S (r + 1)) (iv_rw S r))
/-- a row with even promises -/
def iv_er (f : Int → Int) (p : Int) : Int → Int := fun i => if 8 ≤ i ∧ i % 7 = 1 ∧ i < 3 + 7 * f 0 then (if mm_cus f ((i - 8) / 7) = 0 then p else -1) else f i
def iv_ev (f : Int → Int) (p v : Int) : Prop := ∃ wd L, bb_RS (iv_er f p) wd L ∧ bb_isB (iv_er f p) wd v
def iv_EV (S : mm_S) : Prop := (0 ≤ S.I 0 10 ∧ S.I 0 10 < 2097152) ∧ (0 ≤ S.I 0 11 ∧ S.I 0 11 ≤ S.I 3 12) ∧ (S.I 0 11 = S.I 3 12 → ∀ p : Int, 0 ≤ p → p ≤ 20 → mm_bt (S.I 0 10) p = true → iv_ev (S.A 102) p (S.A 100 p))
/-- promises of a network are at most 20 -/
def iv_R2 (f : Int → Int) : Prop := ∀ s : Int, 0 ≤ s → s < f 0 → f (3 + 7 * s + 5) ≤ 20
def iv (S : mm_S) (k : Nat) : Prop := iv_TP S ∧ iv_NW S ∧ iv_TD (S.I 3 10) (S.A 8) (S.A 105) (S.A 9) (S.A 106) ∧ iv_KP S ∧ iv_DR S ∧ iv_AC S ∧ iv_EV S ∧ S.A 94 0 = 0 ∧ S.I 101 34 = S.I 0 13 ∧ S.I 3 12 ≤ 10 * k ∧ iv_R2 (S.A 102) ∧ (S.I 0 12 = 1 → iv_R2 (S.A 119))
/-- the cells that it speaks of -/
def iv_rI (x k : Nat) : Prop := (x = 0 ∧ 10 ≤ k ∧ k ≤ 13) ∨ (x = 1 ∧ k = 1) ∨ (x = 3 ∧ 10 ≤ k ∧ k ≤ 12) ∨ (x = 25 ∧ 10 ≤ k ∧ k ≤ 11) ∨ (x = 36 ∧ 3 ≤ k ∧ k ≤ 4) ∨ (x = 101 ∧ (k = 4 ∨ k = 24 ∨ k = 26 ∨ k = 34))
def iv_rA (x : Nat) : Prop := x = 2 ∨ (4 ≤ x ∧ x ≤ 13) ∨ x = 15 ∨ x = 24 ∨ (26 ≤ x ∧ x ≤ 31) ∨ x = 35 ∨ (37 ≤ x ∧ x ≤ 39) ∨ x = 94 ∨ x = 100 ∨ x = 102 ∨ (104 ≤ x ∧ x ≤ 106) ∨ (119 ≤ x ∧ x ≤ 122)
theorem iv_fr {S T : mm_S} {k : Nat} (h : iv S k) (hI : ∀ x k, iv_rI x k → T.I x k = S.I x k) (hA : ∀ x, iv_rA x → T.A x = S.A x) : iv T k := by
  have i0a := hI 0 10 (by unfold iv_rI; omega)
  have i0b := hI 0 11 (by unfold iv_rI; omega)
  have i0c := hI 0 12 (by unfold iv_rI; omega)
  have i0d := hI 0 13 (by unfold iv_rI; omega)
  have i1 := hI 1 1 (by unfold iv_rI; omega)
  have i3a := hI 3 10 (by unfold iv_rI; omega)
  have i3b := hI 3 11 (by unfold iv_rI; omega)
  have i3c := hI 3 12 (by unfold iv_rI; omega)
  have i25a := hI 25 10 (by unfold iv_rI; omega)
  have i25b := hI 25 11 (by unfold iv_rI; omega)
  have i36a := hI 36 3 (by unfold iv_rI; omega)
  have i36b := hI 36 4 (by unfold iv_rI; omega)
  have im4 := hI 101 4 (by unfold iv_rI; omega)
  have im24 := hI 101 24 (by unfold iv_rI; omega)
  have im26 := hI 101 26 (by unfold iv_rI; omega)
  have im34 := hI 101 34 (by unfold iv_rI; omega)
  have a2 := hA 2 (by unfold iv_rA; omega)
  have a4 := hA 4 (by unfold iv_rA; omega)
  have a5 := hA 5 (by unfold iv_rA; omega)
  have a6 := hA 6 (by unfold iv_rA; omega)
  have a7 := hA 7 (by unfold iv_rA; omega)
  have a8 := hA 8 (by unfold iv_rA; omega)
  have a9 := hA 9 (by unfold iv_rA; omega)
  have a10 := hA 10 (by unfold iv_rA; omega)
  have a11 := hA 11 (by unfold iv_rA; omega)
  have a12 := hA 12 (by unfold iv_rA; omega)
  have a13 := hA 13 (by unfold iv_rA; omega)
  have a15 := hA 15 (by unfold iv_rA; omega)
  have a24 := hA 24 (by unfold iv_rA; omega)
  have a26 := hA 26 (by unfold iv_rA; omega)
  have a27 := hA 27 (by unfold iv_rA; omega)
  have a28 := hA 28 (by unfold iv_rA; omega)
  have a29 := hA 29 (by unfold iv_rA; omega)
  have a30 := hA 30 (by unfold iv_rA; omega)
  have a31 := hA 31 (by unfold iv_rA; omega)
  have a35 := hA 35 (by unfold iv_rA; omega)
  have a37 := hA 37 (by unfold iv_rA; omega)
  have a38 := hA 38 (by unfold iv_rA; omega)
  have a39 := hA 39 (by unfold iv_rA; omega)
  have a94 := hA 94 (by unfold iv_rA; omega)
  have a100 := hA 100 (by unfold iv_rA; omega)
  have a102 := hA 102 (by unfold iv_rA; omega)
  have a104 := hA 104 (by unfold iv_rA; omega)
  have a105 := hA 105 (by unfold iv_rA; omega)
  have a106 := hA 106 (by unfold iv_rA; omega)
  have a119 := hA 119 (by unfold iv_rA; omega)
  have a120 := hA 120 (by unfold iv_rA; omega)
  have a121 := hA 121 (by unfold iv_rA; omega)
  have a122 := hA 122 (by unfold iv_rA; omega)
  unfold iv iv_TP iv_NW iv_KP iv_DR iv_AC iv_EV iv_rw iv_sl pp_NT pp_EQ pp_NK pp_GK at h ⊢
  rw [i0a, i0b, i0c, i0d, i1, i3a, i3b, i3c, i25a, i25b, i36a, i36b, im4, im24, im26, im34, a2, a4, a5, a6, a7, a8, a9, a10, a11, a12, a13, a15, a24, a26, a27, a28, a29, a30, a31, a35, a37, a38, a39, a94, a100, a102, a104, a105, a106, a119, a120, a121, a122]
  exact h
theorem iv_up {S : mm_S} {k l : Nat} (h : iv S k) (hk : k ≤ l) : iv S l := by
  obtain ⟨h1, h2, h3, h4, h5, h6, h7, h8, h9, h10, h11⟩ := h
  exact ⟨h1, h2, h3, h4, h5, h6, h7, h8, h9, by omega, h11⟩
/-- an int of the machine -/
def iv_n (x : Int) : Prop := -2147483648 ≤ x ∧ x < 2147483648
/-- how a call of both ends: with the same answer, or with an exception and its number -/
def iv_ok (E : mm_E) (B d : Nat) (S : mm_S) (k J : Nat) (as : List Value) (K : Nat) (bs : List Value) (cd : Nat → Int) : Prop := ∀ c : mm_N, ∃ S1 : mm_S,
  (∃ v : Int, mm_ev E d J as (mm_hp B S c) = mm_oI v (mm_hp B S1 c) ∧ ∀ o : Int → Int, ∃ S2, mm_ev E d K bs (mm_hp B (S1.sL 123 o) c) = mm_oI v (mm_hp B S2 c) ∧ S2.I 101 0 = 0 ∧ S2.L 123 = o ∧ iv S2 (k + 1))
  ∨ (∃ x : Nat, mm_ev E d J as (mm_hp B S c) = pp_th x S1 c B ∧ ∀ c', ∃ S2 b, mm_ev E d K bs (mm_hp B S1 c') = mm_oI b (mm_hp B S2 c') ∧ S2.I 101 0 = cd x ∧ 0 < cd x ∧ iv S2 (k + 1))
/-- one that can't throw -/
def iv_ok0 (E : mm_E) (B d : Nat) (S : mm_S) (k J : Nat) (as : List Value) (K : Nat) (bs : List Value) : Prop := ∀ c : mm_N, ∃ S1 S2 : mm_S, ∃ v : Int, mm_ev E d J as (mm_hp B S c) = mm_oI v (mm_hp B S1 c) ∧ mm_ev E d K bs (mm_hp B S1 c) = mm_oI v (mm_hp B S2 c) ∧ iv S2 (k + 1)
/-- how the exceptions are numbered -/
def iv_c1 (x : Nat) : Int := if x = 0 then 1 else 0
def iv_c2 (x : Nat) : Int := if x = 0 then 1 else if x = 1 then 2 else 0
def iv_c3 (x : Nat) : Int := if x = 1 then 1 else 0
section
variable {E : mm_E} {d B : Nat} {S : mm_S} {k : Nat}
/-- a call that changes nothing, both having one answer -/
theorem iv_same {J K : Nat} {as bs : List Value} {cd : Nat → Int} (h : iv S k) (v : Int) (h1 : ∀ c, mm_ev E d J as (mm_hp B S c) = mm_oI v (mm_hp B S c)) (h2 : ∀ (o : Int → Int) c, mm_ev E d K bs (mm_hp B (S.sL 123 o) c) = mm_oI v (mm_hp B ((S.sL 123 o).sI 101 0 0) c)) : iv_ok E B d S k J as K bs cd := by
  refine fun c => ⟨S, Or.inl ⟨v, h1 c, fun o => ⟨(S.sL 123 o).sI 101 0 0, h2 o c, by simp only [mm_gs], by simp only [mm_gs], iv_up (iv_fr h (fun x k hx => ?_) (fun x _ => rfl)) (by omega)⟩⟩⟩
  unfold iv_rI at hx
  rw [mm_gI_ne (by omega)]
  rfl
theorem iv_thr {J K : Nat} {as bs : List Value} {cd : Nat → Int} (h : iv S k) (x : Nat) (hx : 0 < cd x) (h1 : ∀ c, mm_ev E d J as (mm_hp B S c) = pp_th x S c B) (h2 : ∀ c, ∃ b, mm_ev E d K bs (mm_hp B S c) = mm_oI b (mm_hp B (S.sI 101 0 (cd x)) c)) : iv_ok E B d S k J as K bs cd := by
  refine fun c => ⟨S, Or.inr ⟨x, h1 c, fun c => ?_⟩⟩
  obtain ⟨b, hb⟩ := h2 c
  refine ⟨S.sI 101 0 (cd x), b, hb, by simp only [mm_gs], hx, iv_up (iv_fr h (fun x k hx => ?_) (fun x _ => rfl)) (by omega)⟩
  unfold iv_rI at hx
  rw [mm_gI_ne (by omega)]
theorem iv_nn (h : iv S k) : 0 ≤ S.I 3 10 ∧ S.I 3 10 ≤ 12 := h.2.1.2.2.1.1
theorem iv_sL (h : iv S k) (o : Int → Int) : iv (S.sL 123 o) k := iv_fr h (fun _ _ _ => rfl) (fun _ _ => rfl)
theorem iv_sc (h : iv S k) (v : Int) : iv (S.sI 101 0 v) k := iv_fr h (fun x k hx => by unfold iv_rI at hx; exact mm_gI_ne (by omega)) (fun _ _ => rfl)
theorem iv_RL (h : iv S k) : pp_RL S 3 (S.A 102) := pp_EQ_RL h.2.1.1 h.2.1.2.1
theorem iv_TM (h : iv S k) : pp_TM S 3 := fun s s0 s1 => by
  have g := h.2.2.1.1 s s0 s1
  exact ⟨g.2.1, g.2.2.1⟩
theorem iv_DM (h : iv S k) : pp_DM S 3 := fun s s0 s1 => by
  have g := h.2.2.1.2 s s0 s1
  exact ⟨g.2.1, g.2.2.1⟩
theorem iv_tE (h : iv S k) : ∀ s : Int, 0 ≤ s → s < S.I 3 10 → S.A 105 s = S.A (3 + 5) s := fun s s0 s1 => (h.2.2.1.1 s s0 (by have := iv_nn h; omega)).1
theorem iv_dE (h : iv S k) : ∀ i : Int, 0 ≤ i → i < S.I 3 10 * 40 → S.A 106 i = S.A (3 + 6) i := fun i i0 i1 => (h.2.2.1.2 i i0 (by have := iv_nn h; omega)).1
theorem iv_N (h : iv S k) : S.A 102 0 = S.I 3 10 := h.2.1.2.1.1.symm
/-- the model's isStage -/
theorem iv_isS (h : iv S k) (hd : 2 ≤ d) {s : Int} (hs : iv_n s) (c : mm_N) : mm_ev E d 151 [.ref (mm_ad B 101), .int (mm_i s)] (mm_hp B S c) = mm_oI (mm_b1 (decide (0 ≤ s ∧ s < S.I 3 10))) (mm_hp B S c) := by
  have n := iv_nn h
  have e := iv_N h
  rw [c_isStageM hd hs.1 hs.2 (by omega) (by omega), e, show decide (0 ≤ s ∧ s ≤ S.I 3 10 - 1) = decide (0 ≤ s ∧ s < S.I 3 10) from decide_eq_decide.mpr (by omega)]
theorem iv_isSc (h : iv S k) (hd : 2 ≤ d) {s : Int} (hs : iv_n s) (o : Int → Int) (v : Int) (c : mm_N) : mm_ev E d 151 [.ref (mm_ad B 101), .int (mm_i s)] (mm_hp B ((S.sL 123 o).sI 101 0 v) c) = mm_oI (mm_b1 (decide (0 ≤ s ∧ s < S.I 3 10))) (mm_hp B ((S.sL 123 o).sI 101 0 v) c) := by
  have g := iv_isS (E := E) (B := B) (iv_sc (iv_sL h o) v) hd hs c
  exact g
end
