/-! ASK: the values of the words -/
/-- a Net that no cell holds: what the model is held against -/
def aq_gh (T S : mm_S) : mm_S := (((fun a k => if a = 1000 then S.I 3 k else T.I a k), T.J), ((fun x => if 1000 ≤ x then S.A (x - 997) else T.A x), T.L))
theorem aq_ghI (T S : mm_S) (k : Nat) : (aq_gh T S).I 1000 k = S.I 3 k := rfl
theorem aq_ghA (T S : mm_S) {x : Nat} (h : 1000 ≤ x) : (aq_gh T S).A x = S.A (x - 997) := if_pos h
theorem aq_gh_A (T S : mm_S) {x : Nat} (h : ¬ 1000 ≤ x) : (aq_gh T S).A x = T.A x := if_neg h
theorem aq_sh0 {a : Nat} (h : 124 ≤ a) : mm_sh a = none := by
  unfold mm_sh
  exact List.getElem?_eq_none_iff.mpr (by
    have e : mm_shl.length = 124 := by decide +kernel
    omega)
theorem aq_gh_hp (T S : mm_S) (B : Nat) (c : mm_N) : mm_hp B T c = mm_hp B (aq_gh T S) c := gl_of (fun a => by
  by_cases q : a < 124
  · refine gl_cl (fun k => ?_) (fun k => rfl) ?_ rfl
    · exact (if_neg (show ¬ a = 1000 by omega)).symm
    · exact (if_neg (show ¬ 1000 ≤ a by omega)).symm
  · unfold pp_cell
    rw [aq_sh0 (by omega)])
/-- a state whose Net 3 and rows 102, 105 tell one network and one plan -/
def aq_N (S : mm_S) (g t : Int → Int) : Prop := pp_RO g ∧ pp_EQ S 3 g ∧ pp_NT S 3 ∧ pp_TM S 3 ∧ (∀ s : Int, 0 ≤ s → s < 12 → t s = S.A 8 s)
noncomputable def aq_W (S : mm_S) (s m : Int) : Int := if m = 0 then s else if m < 8 then S.A (3 + 1) (s * 7 + (m - 1)) else if m = 8 then S.A (3 + 8) s else if m = 9 then S.A (3 + 9) s else if m = 10 then S.A (3 + 10) s else if m = 11 then mm_pc (S.A (3 + 3) s) else if m = 12 then mm_pc (S.A (3 + 4) s) else pp_bp S 3 s (m - 13)
theorem aq_W_c {S U : mm_S} (hI : ∀ k, U.I 3 k = S.I 3 k) (hA : ∀ x, 4 ≤ x → x ≤ 13 → U.A x = S.A x) (s m : Int) : aq_W U s m = aq_W S s m := by
  unfold aq_W pp_bp pp_hd pp_nd pp_wt
  rw [hI 10, hI 11, hA (3 + 1) (by omega) (by omega), hA (3 + 3) (by omega) (by omega), hA (3 + 4) (by omega) (by omega), hA (3 + 5) (by omega) (by omega), hA (3 + 8) (by omega) (by omega), hA (3 + 9) (by omega) (by omega), hA (3 + 10) (by omega) (by omega)]
theorem aq_N_c {S U : mm_S} {g t : Int → Int} (hI : ∀ k, U.I 3 k = S.I 3 k) (hA : ∀ x, 4 ≤ x → x ≤ 13 → U.A x = S.A x) (h : aq_N S g t) : aq_N U g t := by
  obtain ⟨h1, h2, h3, h4, h5⟩ := h
  refine ⟨h1, ?_, iv_NTc (fun k _ => hI k) hA h3, ?_, ?_⟩
  · unfold pp_EQ at h2 ⊢
    rw [hI 10, hI 11, hA (3 + 1) (by omega) (by omega), hA (3 + 2) (by omega) (by omega), hA (3 + 3) (by omega) (by omega), hA (3 + 4) (by omega) (by omega)]
    exact h2
  · unfold pp_TM at h4 ⊢
    rw [hA (3 + 5) (by omega) (by omega)]
    exact h4
  · rw [hA 8 (by omega) (by omega)]
    exact h5
section
variable {E : mm_E} {d B : Nat} {S T : mm_S} {c : mm_N} {g t : Int → Int} {s : Int}
theorem aq_valC (h : aq_N S g t) (h0 : 0 ≤ s) (h1 : s < S.I 3 10) (hd : 5 ≤ d) {m : Int} (m0 : 0 ≤ m) (m1 : m < 19) : mm_ev E d 74 [.ref (mm_ad B 97), .int (mm_i s), .int (mm_i m)] (mm_hp B S c) = mm_oI (aq_W S s m) (mm_hp B S c) := by
  obtain ⟨-, -, hT, hM, -⟩ := h
  have nn := hT.1.1
  have b3 := hT.1.2.2.1 s h0 (by omega)
  have b4 := hT.1.2.2.2.1 s h0 (by omega)
  refine mm_v74 (by omega) (fun F e hF he => ?_)
  have tl : ∀ w : Int, 0 ≤ w → w < 7 → mm_ev E e 30 [.ref (mm_ad B 3), .int (mm_i s), .int (mm_i w)] (mm_hp B S c) = mm_oI (S.A (3 + 1) (s * 7 + w)) (mm_hp B S c) := fun w w0 w1 => c_told (by omega) (by omega) h0 (by omega) w0 w1
  have bp : ∀ w : Int, 0 ≤ w → w < 6 → mm_ev E e 52 [.ref (mm_ad B 3), .int (mm_i s), .int (mm_i w)] (mm_hp B S c) = mm_oI (pp_bp S 3 s w) (mm_hp B S c) := fun w w0 w1 => c_byPlan (by omega) (by omega) hT hM h0 h1 (by omega) (by omega)
  have ne : ∀ {x y : Int} {X Y : mm_R}, 0 ≤ x → x < 19 → 0 ≤ y → y < 19 → x ≠ y → mm_br (mm_i x = mm_i y) X Y = Y := fun x0 x1 y0 y1 h => by rw [mm_br_eq (by omega) (by omega) (by omega) (by omega), if_neg h]
  rw [mm_e74_0]
  unfold aq_W
  by_cases q0 : m = 0
  · rw [if_pos q0, q0, mm_br_t rfl]
  rw [if_neg q0, ne m0 m1 (by omega) (by omega) q0]
  by_cases q8 : m < 8
  · rw [if_pos q8]
    have L : ∀ X : mm_R, mm_br (mm_i 8 ≤ mm_i m) X (mm_gR (mm_hp B S c) (mm_ad B 97) 4 1 fun p => mm_cI [] (mm_ev E e 30 [.ref p, .int (mm_i s), .int (mm_i m - mm_i 1)] (mm_hp B S c)) fun v h => some (.inl (some (.int v)), h)) = mm_oI (S.A (3 + 1) (s * 7 + (m - 1))) (mm_hp B S c) := fun X => by
      rw [mm_br_le (by omega) (by omega) (by omega) (by omega), if_neg (by omega)]
      simp (disch := omega) only [mm_ptQ, mm_hm]
      rw [tl (m - 1) (by omega) (by omega), mm_cI_ok]
    rcases (by omega : m = 1 ∨ m = 2 ∨ m = 3 ∨ m = 4 ∨ m = 5 ∨ m = 6 ∨ m = 7) with r | r | r | r | r | r | r
    · rw [mm_br_t (by rw [r]), L]
    · rw [ne m0 m1 (by omega) (by omega) (by omega), mm_br_t (by rw [r]), L]
    · rw [ne m0 m1 (by omega) (by omega) (by omega), ne m0 m1 (by omega) (by omega) (by omega), mm_br_t (by rw [r]), L]
    · rw [ne m0 m1 (by omega) (by omega) (by omega), ne m0 m1 (by omega) (by omega) (by omega), ne m0 m1 (by omega) (by omega) (by omega), mm_br_t (by rw [r]), L]
    · rw [ne m0 m1 (by omega) (by omega) (by omega), ne m0 m1 (by omega) (by omega) (by omega), ne m0 m1 (by omega) (by omega) (by omega), ne m0 m1 (by omega) (by omega) (by omega), mm_br_t (by rw [r]), L]
    · rw [ne m0 m1 (by omega) (by omega) (by omega), ne m0 m1 (by omega) (by omega) (by omega), ne m0 m1 (by omega) (by omega) (by omega), ne m0 m1 (by omega) (by omega) (by omega), ne m0 m1 (by omega) (by omega) (by omega), mm_br_t (by rw [r]), L]
    · rw [ne m0 m1 (by omega) (by omega) (by omega), ne m0 m1 (by omega) (by omega) (by omega), ne m0 m1 (by omega) (by omega) (by omega), ne m0 m1 (by omega) (by omega) (by omega), ne m0 m1 (by omega) (by omega) (by omega), ne m0 m1 (by omega) (by omega) (by omega), mm_br_t (by rw [r]), L]
  rw [if_neg q8, ne m0 m1 (by omega) (by omega) (by omega), ne m0 m1 (by omega) (by omega) (by omega), ne m0 m1 (by omega) (by omega) (by omega), ne m0 m1 (by omega) (by omega) (by omega), ne m0 m1 (by omega) (by omega) (by omega), ne m0 m1 (by omega) (by omega) (by omega), ne m0 m1 (by omega) (by omega) (by omega)]
  by_cases e8 : m = 8
  · rw [if_pos e8, mm_br_t (by rw [e8])]
    simp (disch := omega) only [mm_ptQ, mm_ptN]
  rw [if_neg e8, ne m0 m1 (by omega) (by omega) e8]
  by_cases e9 : m = 9
  · rw [if_pos e9, mm_br_t (by rw [e9])]
    simp (disch := omega) only [mm_ptQ, mm_ptN]
  rw [if_neg e9, ne m0 m1 (by omega) (by omega) e9]
  by_cases e10 : m = 10
  · rw [if_pos e10, mm_br_t (by rw [e10])]
    simp (disch := omega) only [mm_ptQ, mm_ptN]
  rw [if_neg e10, ne m0 m1 (by omega) (by omega) e10]
  by_cases e11 : m = 11
  · rw [if_pos e11, mm_br_t (by rw [e11])]
    simp (disch := omega) only [mm_ptQ, mm_ptN]
    rw [c_bitCount (by omega) b3.1 b3.2, mm_cI_ok]
  rw [if_neg e11, ne m0 m1 (by omega) (by omega) e11]
  by_cases e12 : m = 12
  · rw [if_pos e12, mm_br_t (by rw [e12])]
    simp (disch := omega) only [mm_ptQ, mm_ptN]
    rw [c_bitCount (by omega) b4.1 b4.2, mm_cI_ok]
  rw [if_neg e12, ne m0 m1 (by omega) (by omega) e12, mm_br_le (by omega) (by omega) (by omega) (by omega), if_pos (by omega)]
  simp (disch := omega) only [mm_ptQ, mm_hm]
  rw [bp (m - 13) (by omega) (by omega), mm_cI_ok]
theorem aq_okW (h : aq_N S g t) (h0 : 0 ≤ s) (h1 : s < S.I 3 10) : aq_ok E B s (aq_W S s) S := fun st d c m hd m0 m1 => by
  have z := aq_valC (E := E) (d := d) (B := B) (c := c) (S := S.sA 99 st) (aq_N_c (S := S) (U := S.sA 99 st) (fun _ => rfl) (fun x x0 x1 => mm_gA_ne (show x ≠ 99 by omega)) h) h0 h1 (by omega) m0 m1
  rw [z, aq_W_c (S := S) (U := S.sA 99 st) (fun _ => rfl) (fun x x0 x1 => mm_gA_ne (show x ≠ 99 by omega))]
end
