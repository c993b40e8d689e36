/-! EVEN PROMISES: the model -/
theorem iv_er0 (f : Int → Int) (p : Int) : iv_er f p 0 = f 0 ∧ iv_er f p 1 = f 1 ∧ iv_er f p 2 = f 2 := by
  unfold iv_er
  exact ⟨by rw [if_neg (by omega)], by rw [if_neg (by omega)], by rw [if_neg (by omega)]⟩
theorem iv_er_l {f : Int → Int} {p : Int} (hn : f 0 ≤ 12) {l : Int} (h : 159 ≤ l) : iv_er f p l = f l := by
  unfold iv_er
  rw [if_neg (by omega)]
theorem iv_er5 {f : Int → Int} {p s : Int} (s0 : 0 ≤ s) (s1 : s < f 0) : iv_er f p (3 + 7 * s + 5) = if mm_cus f s = 0 then p else -1 := by
  unfold iv_er
  rw [if_pos (by omega), show (3 + 7 * s + 5 - 8) / 7 = s by omega]
theorem iv_erw {f : Int → Int} {p s w : Int} (w0 : 0 ≤ w) (w1 : w < 7) (w5 : w ≠ 5) : iv_er f p (3 + 7 * s + w) = f (3 + 7 * s + w) := by
  unfold iv_er
  rw [if_neg (by omega)]
theorem iv_er_RO {f : Int → Int} (hR : pp_RO f) {p : Int} (p0 : 0 ≤ p) (p1 : p ≤ 20) : pp_RO (iv_er f p) := by
  have n := hR.1
  have e := iv_er0 f p
  refine pp_RO_same hR e.1 (by rw [e.2.1]; exact hR.2.1) e.2.2 (fun l l0 l1 => ⟨iv_er_l (by omega) (by omega), iv_er_l (by omega) (by omega)⟩) (fun t t0 t1 => ?_)
  have g := hR.2.2.2.2.1 t t0 t1
  unfold pp_tR at g ⊢
  dsimp only at g ⊢
  have r5 : -1 ≤ iv_er f p (3 + 7 * t + 5) ∧ iv_er f p (3 + 7 * t + 5) ≤ 21 := by
    rw [iv_er5 t0 t1]
    by_cases q : mm_cus f t = 0
    · rw [if_pos q]; omega
    · rw [if_neg q]; omega
  have q : ∀ w : Int, 3 + (t * 7 + w) = 3 + 7 * t + w := fun w => by omega
  rw [q, q, q, q, q, q, q] at g ⊢
  rw [iv_erw (w := 0) (by omega) (by omega) (by omega), iv_erw (w := 1) (by omega) (by omega) (by omega), iv_erw (w := 2) (by omega) (by omega) (by omega), iv_erw (w := 3) (by omega) (by omega) (by omega), iv_erw (w := 4) (by omega) (by omega) (by omega), iv_erw (w := 6) (by omega) (by omega) (by omega)]
  exact ⟨g.1, g.2.1, g.2.2.1, g.2.2.2.1, g.2.2.2.2.1, r5, g.2.2.2.2.2.2⟩
/-- the rows on the way there and back -/
def iv_e1 (f : Int → Int) (p k : Int) : Int → Int := fun i => if 8 ≤ i ∧ i % 7 = 1 ∧ i < 3 + 7 * k then (if mm_cus f ((i - 8) / 7) = 0 then p else -1) else f i
def iv_e2 (f : Int → Int) (p k : Int) : Int → Int := fun i => if 3 + 7 * k ≤ i ∧ i % 7 = 1 ∧ i < 3 + 7 * f 0 then (if mm_cus f ((i - 8) / 7) = 0 then p else -1) else f i
theorem iv_e10 (f : Int → Int) (p : Int) : iv_e1 f p 0 = f := by
  funext i
  unfold iv_e1
  rw [if_neg (by omega)]
theorem iv_e1n (f : Int → Int) (p : Int) : iv_e1 f p (f 0) = iv_er f p := rfl
theorem iv_e1s {f : Int → Int} {p k : Int} (k0 : 0 ≤ k) : mm_u (iv_e1 f p k) (3 + 7 * k + 5) (if mm_cus f k = 0 then p else -1) = iv_e1 f p (k + 1) := by
  funext i
  by_cases q : i = 3 + 7 * k + 5
  · rw [q, mm_u_eq]
    unfold iv_e1
    rw [if_pos (show 8 ≤ 3 + 7 * k + 5 ∧ (3 + 7 * k + 5) % 7 = 1 ∧ 3 + 7 * k + 5 < 3 + 7 * (k + 1) by omega), show (3 + 7 * k + 5 - 8) / 7 = k by omega]
  · rw [mm_u_ne q]
    unfold iv_e1
    by_cases z : 8 ≤ i ∧ i % 7 = 1 ∧ i < 3 + 7 * k
    · rw [if_pos z, if_pos (show 8 ≤ i ∧ i % 7 = 1 ∧ i < 3 + 7 * (k + 1) by omega)]
    · rw [if_neg z, if_neg (by omega)]
theorem iv_e20 (f : Int → Int) (p : Int) : iv_e2 f p 0 = iv_er f p := by
  funext i
  unfold iv_e2 iv_er
  by_cases z : 8 ≤ i ∧ i % 7 = 1 ∧ i < 3 + 7 * f 0
  · rw [if_pos z, if_pos (by omega)]
  · rw [if_neg z, if_neg (by omega)]
theorem iv_e2n (f : Int → Int) (p : Int) : iv_e2 f p (f 0) = f := by
  funext i
  unfold iv_e2
  rw [if_neg (by omega)]
theorem iv_e2s {f : Int → Int} {p k : Int} (k0 : 0 ≤ k) : mm_u (iv_e2 f p k) (3 + 7 * k + 5) (f (3 + 7 * k + 5)) = iv_e2 f p (k + 1) := by
  funext i
  by_cases q : i = 3 + 7 * k + 5
  · rw [q, mm_u_eq]
    unfold iv_e2
    rw [if_neg (by omega)]
  · rw [mm_u_ne q]
    unfold iv_e2
    by_cases z : 3 + 7 * k ≤ i ∧ i % 7 = 1 ∧ i < 3 + 7 * f 0
    · rw [if_pos z, if_pos (show 3 + 7 * (k + 1) ≤ i ∧ i % 7 = 1 ∧ i < 3 + 7 * f 0 by omega)]
    · rw [if_neg z, if_neg (by omega)]
theorem iv_e1_cus {f : Int → Int} (hR : pp_RO f) {p k : Int} (k1 : k ≤ 12) (s : Int) : mm_cus (iv_e1 f p k) s = mm_cus f s ∧ mm_PR (iv_e1 f p k) ∧ iv_e1 f p k 0 = f 0 := by
  have m := hR.2.2.1
  have e : ∀ i : Int, (i ≤ 2 ∨ 159 ≤ i) → iv_e1 f p k i = f i := fun i hi => by
    unfold iv_e1
    rw [if_neg (by omega)]
  refine ⟨congrFun (mm_cus_cg (e 2 (by omega)) (fun l l0 l1 => ⟨e _ (by omega), e _ (by omega)⟩)) s, ?_, e 0 (by omega)⟩
  have P := pp_RO_PR hR
  unfold mm_PR at P ⊢
  rw [e 2 (by omega)]
  exact ⟨P.1, P.2.1, fun l l0 l1 => by rw [e _ (by omega), e _ (by omega)]; exact P.2.2 l l0 l1⟩
section
variable {E : mm_E} {d B : Nat} {S : mm_S} {k : Nat}
theorem l_evM1 {f : Int → Int} (hR : pp_RO f) {p : Int} (hd : 2 ≤ d) (c : mm_N) : ∀ (j i n : Nat) (w : Int → Int) (o3 : Option Value), (f 0).toNat = i + j → 2 * j < n → (∀ u : Int, 0 ≤ u → u < i → w u = f (3 + 7 * u + 5)) → ∃ m w' o3', n ≤ m + 2 * j ∧ (∀ u : Int, 0 ≤ u → u < f 0 → w' u = f (3 + 7 * u + 5)) ∧ mm_r208_2 E (mm_ev E d) n (mm_ad B 101) (mm_i p) (mm_i i) o3 (mm_hp B ((S.sA 102 (iv_e1 f p i)).sA 116 w) c) = mm_r208_2 E (mm_ev E d) m (mm_ad B 101) (mm_i p) (mm_i (f 0)) o3' (mm_hp B ((S.sA 102 (iv_er f p)).sA 116 w') c) := by
  have n12 := hR.1
  intro j
  induction j with
  | zero =>
    intro i n w o3 hi hn hw
    have e : (i : Int) = f 0 := by omega
    rw [e]
    exact ⟨n, w, o3, by omega, fun u u0 u1 => hw u u0 (by omega), rfl⟩
  | succ j ih =>
    intro i n w o3 hi hn hw
    obtain ⟨n, rfl⟩ : ∃ q, n = q + 2 := ⟨n - 2, by omega⟩
    have q := iv_e1_cus hR (p := p) (k := i) (by omega) i
    obtain ⟨m, w', o3', m1, m2, m3⟩ := ih (i + 1) n (mm_u w i (f (3 + 7 * i + 5))) (some (.int (mm_i (3 + 7 * i + 5)))) (by omega) (by omega) (fun u u0 u1 => by
      by_cases z : u = i
      · rw [z, mm_u_eq]
      · rw [mm_u_ne z]; exact hw u u0 (by omega))
    refine ⟨m, w', o3', by omega, m2, ?_⟩
    rw [Int.natCast_add, Int.natCast_one, ← iv_e1s (by omega)] at m3
    rw [← m3]
    have a102 : ∀ w : Int → Int, ((S.sA 102 (iv_e1 f p i)).sA 116 w).A 102 = iv_e1 f p i := fun w => by simp (disch := omega) only [mm_gs, pp_ne]
    have v5 : iv_e1 f p i (3 + 7 * i + 5) = f (3 + 7 * i + 5) := by
      unfold iv_e1
      rw [if_neg (by omega)]
    rw [mm_e208_2, c_many (by omega), mm_cI_ok, a102, q.2.2]
    simp (disch := omega) only [mm_br_le]
    rw [if_neg (by omega)]
    simp (disch := omega) only [mm_ptM, mm_hm, mm_gs, pp_ne, v5, mm_e208_31]
    have cc := c_customersOf (E := E) (d := d) (B := B) (c := c) (S := (S.sA 102 (iv_e1 f p i)).sA 116 (mm_u w i (f (3 + 7 * i + 5)))) (s := (i : Int)) hd (by rw [a102]; exact q.2.1) (by omega) (by omega)
    rw [a102, q.1] at cc
    rw [cc, mm_cI_ok]
    have cr := mm_cus_r i (pp_RO_PR hR)
    simp (disch := omega) only [mm_br_eq, mm_ptM, mm_gs, pp_ne]
    by_cases z : mm_cus f i = 0
    · rw [if_pos z, if_pos z]
      simp (disch := omega) only [pp_cm, mm_gs]
    · rw [if_neg z, if_neg z]
      simp (disch := omega) only [pp_cm, mm_gs]
theorem l_evM2 {f w : Int → Int} (hR : pp_RO f) {p v : Int} (hd : 1 ≤ d) (hw : ∀ u : Int, 0 ≤ u → u < f 0 → w u = f (3 + 7 * u + 5)) (hS : S.A 116 = w) (c : mm_N) : ∀ (j i n : Nat), (f 0).toNat = i + j → j < n → mm_r208_63 E (mm_ev E d) n (mm_ad B 101) (mm_i p) (mm_i v) (mm_i i) (mm_hp B (S.sA 102 (iv_e2 f p i)) c) = mm_oI v (mm_hp B (S.sA 102 f) c) := by
  have n12 := hR.1
  intro j
  induction j with
  | zero =>
    intro i n hi hn
    obtain ⟨n, rfl⟩ : ∃ q, n = q + 1 := ⟨n - 1, by omega⟩
    have e : (i : Int) = f 0 := by omega
    rw [e, iv_e2n, mm_e208_63, c_many hd, mm_cI_ok, mm_gs.2.2.2.2.2.2.2.2.1]
    simp (disch := omega) only [mm_br_le]
    rw [if_pos (by omega)]
  | succ j ih =>
    intro i n hi hn
    obtain ⟨n, rfl⟩ : ∃ q, n = q + 1 := ⟨n - 1, by omega⟩
    have ih := ih (i + 1) n (by omega) (by omega)
    rw [Int.natCast_add, Int.natCast_one, ← iv_e2s (by omega)] at ih
    have e0 : iv_e2 f p i 0 = f 0 := by
      unfold iv_e2
      rw [if_neg (by omega)]
    have a116 : (S.sA 102 (iv_e2 f p i)).A 116 i = f (3 + 7 * i + 5) := by
      rw [mm_gA_ne (by omega), hS]
      exact hw i (by omega) (by omega)
    rw [← ih, mm_e208_63, c_many hd, mm_cI_ok, mm_gs.2.2.2.2.2.2.2.2.1, e0]
    simp (disch := omega) only [mm_br_le]
    rw [if_neg (by omega)]
    simp (disch := omega) only [mm_ptM, mm_hm]
    rw [a116]
    simp (disch := omega) only [mm_gs]
theorem iv_evM (h : iv S k) (hd : 20 ≤ d) {p : Int} (p0 : 0 ≤ p) (p1 : p ≤ 20) (c : mm_N) : ∃ T v, mm_ev E d 208 [.ref (mm_ad B 101), .int (mm_i p)] (mm_hp B S c) = mm_oI v (mm_hp B T c) ∧ iv_bp (iv_er (S.A 102) p) v ∧ (v = -1 ∨ (0 ≤ v ∧ v < 1000000000)) ∧ iv T k ∧ T.L = S.L ∧ T.I 101 0 = S.I 101 0 ∧ T.A 102 = S.A 102 ∧ T.I 3 10 = S.I 3 10 := by
  obtain ⟨e, rfl⟩ : ∃ e, d = e + 1 := ⟨d - 1, by omega⟩
  obtain ⟨F, hF, he⟩ := mm_w208 E e B S c (mm_i p)
  have hn := iv_nn h
  have eN := iv_N h
  have hR := h.2.1.1
  have hG := iv_er_RO hR p0 p1
  obtain ⟨m, w, o3, m1, m2, m3⟩ := l_evM1 (E := E) (d := e) (B := B) (S := S) (f := S.A 102) hR (p := p) (by omega) c (S.A 102 0).toNat 0 (F + 99) (S.A 116) none (by omega) (by omega) (fun u u0 u1 => by omega)
  have z : (S.sA 102 (iv_e1 (S.A 102) p ((0 : Nat) : Int))).sA 116 (S.A 116) = S := by
    rw [show ((0 : Nat) : Int) = 0 from rfl, iv_e10, pp_sA_id]
    exact pp_sA_id S 116
  rw [z] at m3
  have he := he.trans ((mm_e208_0 _ _ _ _ _ _).trans m3)
  obtain ⟨m, rfl⟩ : ∃ q, m = q + 1 := ⟨m - 1, by omega⟩
  have a102 : ((S.sA 102 (iv_er (S.A 102) p)).sA 116 w).A 102 = iv_er (S.A 102) p := by simp (disch := omega) only [mm_gs, pp_ne]
  obtain ⟨U, v, u1, u2, u3, u4⟩ := iv_mL (E := E) (d := e) (B := B) (S := (S.sA 102 (iv_er (S.A 102) p)).sA 116 w) (f := iv_er (S.A 102) p) (by omega) a102 hG c
  have u102 : U.A 102 = iv_er (S.A 102) p := by rw [u1.2.2.2 102 (by omega), a102]
  have u116 : U.A 116 = w := by rw [u1.2.2.2 116 (by omega)]; exact mm_gs.2.2.2.2.2.2.2.2.1 _ _ _
  rw [mm_e208_2, c_many (by omega), mm_cI_ok, a102, (iv_er0 _ _).1] at he
  simp (disch := omega) only [mm_br_le] at he
  rw [if_pos (by omega), u4, mm_cI_ok] at he
  have l := l_evM2 (E := E) (d := e) (B := B) (S := U) (f := S.A 102) (w := w) hR (p := p) (v := v) (by omega) m2 u116 c (S.A 102 0).toNat 0 m (by omega) (by omega)
  rw [show ((0 : Nat) : Int) = 0 from rfl, iv_e20, ← u102, pp_sA_id] at l
  rw [l] at he
  refine ⟨U.sA 102 (S.A 102), v, he, u2, u3, iv_fr h (fun x k hx => ?_) (fun x hx => ?_), u1.2.2.1, ?_, mm_gs.2.2.2.2.2.2.2.2.1 _ _ _, ?_⟩
  · exact u1.1 x k (by unfold iv_rI at hx; omega)
  · by_cases q : x = 102
    · rw [q]; exact mm_gs.2.2.2.2.2.2.2.2.1 _ _ _
    · unfold iv_rA at hx
      rw [mm_gA_ne q, u1.2.2.2 x (by omega), mm_gA_ne (by omega), mm_gA_ne q]
  · exact u1.1 101 0 (by omega)
  · exact u1.1 3 10 (by omega)
end
