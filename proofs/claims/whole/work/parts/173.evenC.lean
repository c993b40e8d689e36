/-! EVEN PROMISES: the class, with what it keeps -/
def iv_et (cs : Int → Int) (n p k : Int) (f : Int → Int) : Int → Int := fun z => if k * 7 ≤ z ∧ z < n * 7 ∧ z % 7 = 5 then (if cs (z / 7) = 0 then p else -1) else f z
theorem iv_etn (cs : Int → Int) (n p : Int) (f : Int → Int) : iv_et cs n p n f = f := by
  funext z
  unfold iv_et
  rw [if_neg (by omega)]
theorem iv_ets {cs f : Int → Int} {n p k : Int} (k0 : 0 ≤ k) (k1 : k < n) : iv_et cs n p (k + 1) (mm_u f (k * 7 + 5) (if cs k = 0 then p else -1)) = iv_et cs n p k f := by
  funext z
  unfold iv_et
  by_cases q : z = k * 7 + 5
  · rw [if_neg (show ¬ ((k + 1) * 7 ≤ z ∧ z < n * 7 ∧ z % 7 = 5) by omega), q, mm_u_eq, if_pos (show k * 7 ≤ k * 7 + 5 ∧ k * 7 + 5 < n * 7 ∧ (k * 7 + 5) % 7 = 5 by omega), show (k * 7 + 5) / 7 = k by omega]
  · rw [mm_u_ne q]
    by_cases y : k * 7 ≤ z ∧ z < n * 7 ∧ z % 7 = 5
    · rw [if_pos y, if_pos (show (k + 1) * 7 ≤ z ∧ z < n * 7 ∧ z % 7 = 5 by omega)]
    · rw [if_neg y, if_neg (show ¬ ((k + 1) * 7 ≤ z ∧ z < n * 7 ∧ z % 7 = 5) by omega)]
theorem iv_etw {cs f : Int → Int} {n p k s w : Int} (w0 : 0 ≤ w) (w1 : w < 7) (w5 : w ≠ 5) : iv_et cs n p k f (s * 7 + w) = f (s * 7 + w) := by
  unfold iv_et
  rw [if_neg (by omega)]
theorem iv_et5 {cs f : Int → Int} {n p s : Int} (s0 : 0 ≤ s) (s1 : s < n) : iv_et cs n p 0 f (s * 7 + 5) = if cs s = 0 then p else -1 := by
  unfold iv_et
  rw [if_pos (by omega), show (s * 7 + 5) / 7 = s by omega]
theorem iv_et5o {cs f : Int → Int} {n p s : Int} (s1 : n ≤ s) : iv_et cs n p 0 f (s * 7 + 5) = f (s * 7 + 5) := by
  unfold iv_et
  rw [if_neg (by omega)]
theorem iv_et_tR {cs f : Int → Int} {n p : Int} (p0 : 0 ≤ p) (p1 : p ≤ 20) {s : Int} (s0 : 0 ≤ s) (h : pp_tR f s) : pp_tR (iv_et cs n p 0 f) s := by
  unfold pp_tR at h ⊢
  rw [iv_etw (w := 0) (by omega) (by omega) (by omega), iv_etw (w := 1) (by omega) (by omega) (by omega), iv_etw (w := 2) (by omega) (by omega) (by omega), iv_etw (w := 3) (by omega) (by omega) (by omega), iv_etw (w := 4) (by omega) (by omega) (by omega), iv_etw (w := 6) (by omega) (by omega) (by omega)]
  refine ⟨h.1, h.2.1, h.2.2.1, h.2.2.2.1, h.2.2.2.2.1, ?_, h.2.2.2.2.2.2⟩
  by_cases q : s < n
  · rw [iv_et5 s0 q]
    by_cases z : cs s = 0
    · rw [if_pos z]; omega
    · rw [if_neg z]; omega
  · rw [iv_et5o (by omega)]; exact h.2.2.2.2.2.1
section
variable {E : mm_E} {d B : Nat} {S : mm_S} {k : Nat}
theorem l_evC {T : mm_S} {p n : Int} (hd : 1 ≤ d) (hn : 0 ≤ n ∧ n ≤ 12) (hT : T.I 14 10 = n) (hc : ∀ s : Int, 0 ≤ s → s < 12 → 0 ≤ T.A 18 s ∧ T.A 18 s < 4096) (c : mm_N) : ∀ (j i m : Nat) (f : Int → Int), n.toNat = i + j → j < m → ∃ m', m ≤ m' + j ∧ mm_r144_54 E (mm_ev E d) m (mm_ad B 0) (mm_i p) (mm_i i) (mm_hp B (T.sA 15 f) c) = mm_r144_54 E (mm_ev E d) m' (mm_ad B 0) (mm_i p) (mm_i n) (mm_hp B (T.sA 15 (iv_et (T.A 18) n p i f)) c) := by
  intro j
  induction j with
  | zero =>
    intro i m f hi hm
    have e : (i : Int) = n := by omega
    rw [e, iv_etn]
    exact ⟨m, by omega, rfl⟩
  | succ j ih =>
    intro i m f hi hm
    obtain ⟨m, rfl⟩ : ∃ q, m = q + 1 := ⟨m - 1, by omega⟩
    obtain ⟨m', m1, m2⟩ := ih (i + 1) m (mm_u f (i * 7 + 5) (if T.A 18 i = 0 then p else -1)) (by omega) (by omega)
    rw [Int.natCast_add, Int.natCast_one, iv_ets (by omega) (by omega)] at m2
    refine ⟨m', by omega, ?_⟩
    have cr := hc i (by omega) (by omega)
    have i10 : (T.sA 15 f).I 14 10 = n := hT
    have a18 : (T.sA 15 f).A (14 + 4) i = T.A 18 i := rfl
    have a15 : (T.sA 15 f).A (14 + 1) = f := mm_gs.2.2.2.2.2.2.2.2.1 _ _ _
    rw [← m2, mm_e144_54]
    simp (disch := omega) only [mm_ptP, mm_ptN]
    rw [i10, a18]
    simp (disch := omega) only [mm_br_le, mm_br_eq]
    rw [if_neg (by omega), c_tell hd (by omega) (by omega) (by omega) (by omega) (by omega), c_tell hd (by omega) (by omega) (by omega) (by omega) (by omega), mm_cV_ok, mm_cV_ok, a15, mm_i_add]
    by_cases z : T.A 18 i = 0
    · rw [if_pos z, if_pos z]
      simp (disch := omega) only [mm_gs]
    · rw [if_neg z, if_neg z]
      simp (disch := omega) only [mm_gs]
/-- the draft with even promises -/
theorem iv_etEQ {T : mm_S} {q f : Int → Int} {p : Int} (hR : pp_RO f) (p0 : 0 ≤ p) (p1 : p ≤ 20) (hE : pp_EQ (T.sA 16 q) 14 f) (hT : pp_NT T 14) : pp_EQ ((T.sA 15 (iv_et (T.A 18) (f 0) p 0 (T.A 15))).sA 16 q) 14 (iv_er f p) ∧ pp_NT (T.sA 15 (iv_et (T.A 18) (f 0) p 0 (T.A 15))) 14 := by
  have n := hR.1
  have hG := iv_er_RO hR p0 p1
  obtain ⟨q0, q1, q2, q3, q4, q5, q6⟩ := hE
  have e := iv_er0 f p
  have el : ∀ l : Int, 0 ≤ l → l < f 2 → iv_er f p (159 + 2 * l) = f (159 + 2 * l) ∧ iv_er f p (159 + 2 * l + 1) = f (159 + 2 * l + 1) := fun l l0 l1 => ⟨iv_er_l (by omega) (by omega), iv_er_l (by omega) (by omega)⟩
  have Q : pp_EQ ((T.sA 15 (iv_et (T.A 18) (f 0) p 0 (T.A 15))).sA 16 q) 14 (iv_er f p) := by
    refine ⟨by rw [e.1]; exact q0, by rw [e.2.1]; exact q1, fun s s0 s1 => ?_, fun s w s0 s1 w0 w1 => ?_, fun s s0 s1 => ?_, fun s i s0 s1 i0 i1 => ?_, fun s i s0 s1 i0 i1 => ?_⟩
    · rw [mm_sup_cg e.2.2 el, mm_cus_cg e.2.2 el]; exact q2 s s0 s1
    · rw [e.1] at s1
      have z := q3 s w s0 s1 w0 w1
      have z : T.A 15 (s * 7 + w) = f (3 + 7 * s + w) := z
      show iv_et (T.A 18) (f 0) p 0 (T.A 15) (s * 7 + w) = _
      by_cases w5 : w = 5
      · have y := (q2 s s0 (by omega)).2
        have y : T.A 18 s = mm_cus f s := y
        rw [w5, iv_et5 s0 s1, iv_er5 s0 s1, y]
      · rw [iv_etw w0 w1 w5, iv_erw w0 w1 w5, z]
    · exact iv_et_tR p0 p1 s0 (q4 s s0 s1)
    · rw [e.1] at s1
      have z : iv_er f p (87 + 6 * s + i) = f (87 + 6 * s + i) := by
        unfold iv_er
        rw [if_neg (by omega)]
      rw [z]; exact q5 s i s0 s1 i0 i1
    · rw [e.1] at s0
      exact q6 s i s0 s1 i0 i1
  refine ⟨Q, pp_EQ_NK (S := (T.sA 15 (iv_et (T.A 18) (f 0) p 0 (T.A 15))).sA 16 q) (a := 14) hG Q, hT.2.1, ?_⟩
  obtain ⟨t1, t2, t3, t4, t5, t6⟩ := hT.2.2
  have w3 : (fun s => iv_et (T.A 18) (f 0) p 0 (T.A 15) (s * 7 + 3)) = fun s => T.A (14 + 1) (s * 7 + 3) := by
    funext s; exact iv_etw (by omega) (by omega) (by omega)
  have w4 : (fun s => iv_et (T.A 18) (f 0) p 0 (T.A 15) (s * 7 + 4)) = fun s => T.A (14 + 1) (s * 7 + 4) := by
    funext s; exact iv_etw (by omega) (by omega) (by omega)
  refine ⟨t1, ?_, ?_, fun s s0 s1 => ?_, t5, t6⟩
  · show pp_FQ _ (fun s => iv_et (T.A 18) (f 0) p 0 (T.A 15) (s * 7 + 3)) _ _
    rw [w3]; exact t2
  · show pp_FQ _ (fun s => iv_et (T.A 18) (f 0) p 0 (T.A 15) (s * 7 + 4)) _ _
    rw [w4]; exact t3
  · have z := t4 s s0 s1
    show T.A 24 s = pp_gx (iv_et (T.A 18) (f 0) p 0 (T.A 15) (s * 7 + 2)) _ _ _ + iv_et (T.A 18) (f 0) p 0 (T.A 15) (s * 7 + 0)
    rw [iv_etw (by omega) (by omega) (by omega), iv_etw (by omega) (by omega) (by omega)]
    exact z
/-- what is kept of even prices changed -/
theorem iv_evs {T : mm_S} (h : iv S k) (hI : ∀ x k, iv_rI x k → ¬ (x = 0 ∧ (k = 10 ∨ k = 11)) → T.I x k = S.I x k) (hA : ∀ x, iv_rA x → x ≠ 100 → T.A x = S.A x) (hE : iv_EV T) : iv T k := by
  have g : iv (((S.sI 0 10 (T.I 0 10)).sI 0 11 (T.I 0 11)).sA 100 (T.A 100)) k := ⟨h.1, h.2.1, h.2.2.1, h.2.2.2.1, h.2.2.2.2.1, h.2.2.2.2.2.1, by
    have e12 := hI 3 12 (by unfold iv_rI; omega) (by omega)
    have e102 := hA 102 (by unfold iv_rA; omega) (by omega)
    unfold iv_EV at hE ⊢
    rw [e12, e102] at hE
    exact hE, h.2.2.2.2.2.2.2.1, h.2.2.2.2.2.2.2.2.1, h.2.2.2.2.2.2.2.2.2⟩
  refine iv_fr g (fun x k hx => ?_) (fun x hx => ?_)
  · by_cases e1 : x = 0 ∧ k = 10
    · rw [e1.1, e1.2]; rfl
    · by_cases e2 : x = 0 ∧ k = 11
      · rw [e2.1, e2.2]; rfl
      · show T.I x k = ((S.sI 0 10 (T.I 0 10)).sI 0 11 (T.I 0 11)).I x k
        rw [mm_gI_ne (by omega), mm_gI_ne (by omega)]
        exact hI x k hx (by omega)
  · by_cases e6 : x = 100
    · rw [e6, mm_gs.2.2.2.2.2.2.2.2.1]
    · rw [mm_gA_ne e6]
      exact hA x hx e6
end
