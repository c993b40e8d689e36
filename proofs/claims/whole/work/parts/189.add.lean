/-! ADD -/
/-- what is told of a new stage -/
def iv_nw (dy co w : Int) : Int := if w = 0 then dy else if w = 1 then co else if w = 5 ∨ w = 6 then -1 else 0
/-- a row with one stage more -/
def iv_ad (f : Int → Int) (dy co : Int) : Int → Int := fun i => if i = 0 then f 0 + 1 else if 3 + 7 * f 0 ≤ i ∧ i < 3 + 7 * f 0 + 7 then iv_nw dy co (i - (3 + 7 * f 0)) else if 87 + 6 * f 0 ≤ i ∧ i < 87 + 6 * f 0 + 6 then 0 else f i
theorem iv_ad_0 {f : Int → Int} {dy co : Int} : iv_ad f dy co 0 = f 0 + 1 := if_pos rfl
theorem iv_ad_n {f : Int → Int} {dy co w : Int} (h : 0 ≤ f 0) (w0 : 0 ≤ w) (w1 : w < 7) : iv_ad f dy co (3 + 7 * f 0 + w) = iv_nw dy co w := by
  unfold iv_ad
  rw [if_neg (by omega), if_pos (by omega), show 3 + 7 * f 0 + w - (3 + 7 * f 0) = w by omega]
theorem iv_ad_m {f : Int → Int} {dy co w : Int} (h : 0 ≤ f 0) (h1 : f 0 < 12) (w0 : 0 ≤ w) (w1 : w < 6) : iv_ad f dy co (87 + 6 * f 0 + w) = 0 := by
  unfold iv_ad
  rw [if_neg (by omega), if_neg (by omega), if_pos (by omega)]
theorem iv_ad_ne {f : Int → Int} {dy co i : Int} (h0 : i ≠ 0) (h1 : ¬ (3 + 7 * f 0 ≤ i ∧ i < 3 + 7 * f 0 + 7)) (h2 : ¬ (87 + 6 * f 0 ≤ i ∧ i < 87 + 6 * f 0 + 6)) : iv_ad f dy co i = f i := by
  unfold iv_ad
  rw [if_neg h0, if_neg h1, if_neg h2]
theorem iv_nw_v {dy co : Int} : iv_nw dy co 0 = dy ∧ iv_nw dy co 1 = co ∧ iv_nw dy co 2 = 0 ∧ iv_nw dy co 3 = 0 ∧ iv_nw dy co 4 = 0 ∧ iv_nw dy co 5 = -1 ∧ iv_nw dy co 6 = -1 := ⟨rfl, rfl, rfl, rfl, rfl, rfl, rfl⟩
theorem iv_ad_RO {f : Int → Int} {dy co : Int} (hR : pp_RO f) (hn : f 0 < 12) (d0 : 0 ≤ dy ∧ dy ≤ 9) (c0 : 0 ≤ co ∧ co ≤ 999) : pp_RO (iv_ad f dy co) ∧ pp_Wr (iv_ad f dy co) = pp_Wr f := by
  have n := hR.1
  have m := hR.2.2.1
  have z := pp_RO_node (g := iv_ad f dy co) hR hn iv_ad_0 (by rw [iv_ad_ne (by omega) (by omega) (by omega)]; exact hR.2.1) (iv_ad_ne (by omega) (by omega) (by omega)) (fun l l0 l1 => ⟨iv_ad_ne (by omega) (by omega) (by omega), iv_ad_ne (by omega) (by omega) (by omega)⟩) (fun t t0 t1 => by
    by_cases q : t = f 0
    · obtain ⟨v0, v1, v2, v3, v4, v5, v6⟩ := iv_nw_v (dy := dy) (co := co)
      have e : ∀ w : Int, 0 ≤ w → w < 7 → iv_ad f dy co (3 + (t * 7 + w)) = iv_nw dy co w := fun w w0 w1 => by
        rw [show 3 + (t * 7 + w) = 3 + 7 * f 0 + w by omega]
        exact iv_ad_n n.1 w0 w1
      unfold pp_tR
      dsimp only
      rw [e 0 (by omega) (by omega), e 1 (by omega) (by omega), e 2 (by omega) (by omega), e 3 (by omega) (by omega), e 4 (by omega) (by omega), e 5 (by omega) (by omega), e 6 (by omega) (by omega), v0, v1, v2, v3, v4, v5, v6]
      omega
    · have y := hR.2.2.2.2.1 t t0 (by omega)
      unfold pp_tR at y ⊢
      dsimp only at y ⊢
      rw [iv_ad_ne (by omega) (by omega) (by omega), iv_ad_ne (by omega) (by omega) (by omega), iv_ad_ne (by omega) (by omega) (by omega), iv_ad_ne (by omega) (by omega) (by omega), iv_ad_ne (by omega) (by omega) (by omega), iv_ad_ne (by omega) (by omega) (by omega), iv_ad_ne (by omega) (by omega) (by omega)]
      exact y)
  exact ⟨z.1, z.2.1⟩
theorem iv_ad_EQ {S T : mm_S} {f : Int → Int} {dy co : Int} (hR : pp_RO f) (hn : f 0 < 12) (h : pp_EQ S 3 f) (d0 : 0 ≤ dy ∧ dy ≤ 9) (c0 : 0 ≤ co ∧ co ≤ 999) (e10 : T.I 3 10 = S.I 3 10 + 1) (e11 : T.I 3 11 = S.I 3 11) (e1 : ∀ w : Int, 0 ≤ w → w < 7 → T.A (3 + 1) (f 0 * 7 + w) = iv_nw dy co w) (e1' : ∀ i : Int, ¬ (f 0 * 7 ≤ i ∧ i < f 0 * 7 + 7) → T.A (3 + 1) i = S.A (3 + 1) i) (e2 : T.A (3 + 2) = S.A (3 + 2)) (e3 : T.A (3 + 3) = S.A (3 + 3)) (e4 : T.A (3 + 4) = S.A (3 + 4)) : pp_EQ T 3 (iv_ad f dy co) := by
  have n := hR.1
  have m := hR.2.2.1
  obtain ⟨q0, q1, q2, q3, q4, q5, q6⟩ := h
  refine ⟨by rw [e10, q0, iv_ad_0], by rw [e11, q1, iv_ad_ne (by omega) (by omega) (by omega)], fun t t0 t1 => ?_, fun t w t0 t1 w0 w1 => ?_, fun t t0 t1 => ?_, fun t i t0 t1 i0 i1 => ?_, fun t i t0 t1 i0 i1 => ?_⟩
  · rw [e3, e4, mm_sup_cg (f := f) (iv_ad_ne (by omega) (by omega) (by omega)) (fun l l0 l1 => ⟨iv_ad_ne (by omega) (by omega) (by omega), iv_ad_ne (by omega) (by omega) (by omega)⟩), mm_cus_cg (f := f) (iv_ad_ne (by omega) (by omega) (by omega)) (fun l l0 l1 => ⟨iv_ad_ne (by omega) (by omega) (by omega), iv_ad_ne (by omega) (by omega) (by omega)⟩)]
    exact q2 t t0 t1
  · rw [iv_ad_0] at t1
    by_cases q : t = f 0
    · rw [q, e1 w w0 w1, iv_ad_n n.1 w0 w1]
    · rw [e1' _ (by omega), iv_ad_ne (by omega) (by omega) (by omega)]
      exact q3 t w t0 (by omega) w0 w1
  · by_cases q : t = f 0
    · obtain ⟨v0, v1, v2, v3, v4, v5, v6⟩ := iv_nw_v (dy := dy) (co := co)
      unfold pp_tR
      rw [q, e1 0 (by omega) (by omega), e1 1 (by omega) (by omega), e1 2 (by omega) (by omega), e1 3 (by omega) (by omega), e1 4 (by omega) (by omega), e1 5 (by omega) (by omega), e1 6 (by omega) (by omega), v0, v1, v2, v3, v4, v5, v6]
      omega
    · have y := q4 t t0 t1
      unfold pp_tR at y ⊢
      rw [e1' _ (by omega), e1' _ (by omega), e1' _ (by omega), e1' _ (by omega), e1' _ (by omega), e1' _ (by omega), e1' _ (by omega)]
      exact y
  · rw [iv_ad_0] at t1
    rw [e2]
    by_cases q : t = f 0
    · rw [q, iv_ad_m n.1 hn i0 i1, ← q]
      exact q6 t i (by omega) (by omega) i0 i1
    · rw [iv_ad_ne (by omega) (by omega) (by omega)]
      exact q5 t i t0 (by omega) i0 i1
  · rw [iv_ad_0] at t0
    rw [e2]
    exact q6 t i (by omega) t1 i0 i1
section
variable {E : mm_E} {d B : Nat} {S : mm_S} {k : Nat} {c : mm_N}
theorem iv_CF (hE : pp_OE E B) (hd : 1 ≤ d) {w v : Int} (w0 : 0 ≤ w) (w1 : w < 7) (hv : iv_n v) (X Y : mm_H → mm_R) : mm_cI [] (mm_ev E d 137 [.int (mm_i w), .int (mm_i v)] (mm_hp B S c)) (fun w H => mm_br (w = mm_i 0) (X H) (Y H)) = if pp_ml w ≤ v ∧ v ≤ pp_mo w then Y (mm_hp B S c) else X (mm_hp B S c) := by
  rw [c_fits hE hd (by omega) (by omega) hv.1 hv.2, mm_cI_ok, mm_br_b1]
  by_cases p : pp_ml w ≤ v ∧ v ≤ pp_mo w
  · rw [if_pos p, if_pos (decide_eq_true ⟨w0, w1, p⟩)]
  · rw [if_neg p, if_neg (fun z => p (of_decide_eq_true z).2.2)]
theorem l_addN {cl : mm_F} {n : Int} {x1 x2 x3 x4 : Int32} (h1 : 0 ≤ n) (h2 : n < 12) : ∀ (j k m : Nat) (f : Int → Int), k + j = 6 → j < m → (∀ i : Int, 0 ≤ i → i < k → f (87 + 6 * n + i) = 0) → ∃ m' f', m ≤ m' + j + 1 ∧ (∀ i : Int, 0 ≤ i → i < 6 → f' (87 + 6 * n + i) = 0) ∧ (∀ i : Int, ¬ (87 + 6 * n ≤ i ∧ i < 87 + 6 * n + 6) → f' i = f i) ∧ mm_r174_71 E cl m (mm_ad B 101) x1 x2 x3 x4 (mm_i n) (mm_i k) (mm_hp B (S.sA 102 f) c) = mm_r174_71 E cl m' (mm_ad B 101) x1 x2 x3 x4 (mm_i n) (mm_i 6) (mm_hp B (S.sA 102 f') c) := by
  intro j
  induction j with
  | zero =>
    intro k m f hk hm hf
    obtain rfl : k = 6 := by omega
    exact ⟨m, f, by omega, fun i i1 i2 => hf i i1 (by omega), fun i _ => rfl, rfl⟩
  | succ j ih =>
    intro k m f hk hm hf
    obtain ⟨m, rfl⟩ : ∃ q, m = q + 1 := ⟨m - 1, by omega⟩
    obtain ⟨m', f', q0, q1, q2, q3⟩ := ih (k + 1) m (mm_u f (87 + 6 * n + k) 0) (by omega) (by omega) (fun i i1 i2 => by
      by_cases z : i = k
      · rw [z, mm_u_eq]
      · rw [mm_u_ne (by omega)]; exact hf i i1 (by omega))
    refine ⟨m', f', by omega, q1, fun i hi => by rw [q2 i hi, mm_u_ne (by omega)], ?_⟩
    rw [Int.natCast_add, Int.natCast_one] at q3
    rw [← q3, mm_e174_71]
    simp (disch := omega) only [mm_br_le]
    rw [if_neg (by omega)]
    simp (disch := omega) only [mm_hm]
    simp (disch := omega) only [mm_ptM, mm_gs]
theorem iv_addC (h : iv S k) (hE : pp_OE E B) (hd : 5 ≤ d) {s u dy co i j : Int} (hu : u = 0 ∨ u = 1) (hs : 0 ≤ s ∧ s < S.I 3 10) (hn : S.I 3 10 < 12) (d0 : 0 ≤ dy ∧ dy ≤ 9) (c0 : 0 ≤ co ∧ co ≤ 999) (hij : (u = 0 ∧ i = s ∧ j = S.I 3 10) ∨ (u = 1 ∧ i = S.I 3 10 ∧ j = s)) : ∃ T, mm_ev E d 110 [.ref (mm_ad B 0), .int (mm_i s), .int (mm_i u), .int (mm_i dy), .int (mm_i co)] (mm_hp B S c) = mm_oI (S.I 3 10) (mm_hp B T c) ∧ pp_RO (iv_jn (iv_ad (S.A 102) dy co) i j) ∧ iv_cA S T (iv_jn (iv_ad (S.A 102) dy co) i j) 8 (S.I 3 10) 0 := by
  have nn := iv_nn h
  have eN := iv_N h
  obtain ⟨e, rfl⟩ : ∃ e, d = e + 1 := ⟨d - 1, by omega⟩
  have hR := h.2.1.1
  have hQ := h.2.1.2.1
  have mm := hR.2.2.1
  have m0 : pp_ml 0 = 0 ∧ pp_mo 0 = 9 ∧ pp_ml 1 = 0 ∧ pp_mo 1 = 999 := by decide
  obtain ⟨rA, wA⟩ := iv_ad_RO (dy := dy) (co := co) hR (by omega) d0 c0
  have a0 : iv_ad (S.A 102) dy co 0 = S.A 102 0 + 1 := iv_ad_0
  have a2 : iv_ad (S.A 102) dy co 2 = S.A 102 2 := iv_ad_ne (by omega) (by omega) (by omega)
  have hcn : ¬ pp_cn (pp_Wr (iv_ad (S.A 102) dy co)) i j := by
    rw [wA]
    have y : ¬ pp_cn (pp_Wr (S.A 102)) s (S.I 3 10) := fun z => by
      have := pp_cn_in (pp_Wr_in (S.A 102)) z
      omega
    intro z
    rcases hij with ⟨-, r1, r2⟩ | ⟨-, r1, r2⟩
    · rw [r1, r2] at z; exact y z
    · rw [r1, r2] at z; exact y (pp_cn_sy z)
  have hG := iv_jn_RO (i := i) (j := j) rA (by omega) (by omega) (by omega) (by omega) hcn
  obtain ⟨f', g1, g2, g3⟩ := c_grow (E := E) (d := e) (B := B) (S := S) (c := c) (a := 3) (by omega) (by omega) (by omega) hn
  obtain ⟨S1, hS1⟩ : ∃ S1, S1 = (S.sI 3 10 (S.I 3 10 + 1)).sA (3 + 1) f' := ⟨_, rfl⟩
  rw [← hS1] at g3
  have w1 := c_tell (E := E) (d := e) (B := B) (S := S1) (c := c) (a := 3) (s := S.I 3 10) (w := 0) (v := dy) (by omega) (by omega) (by omega) hn (by omega) (by omega)
  obtain ⟨S2, hS2⟩ : ∃ S2, S2 = S1.sA (3 + 1) (mm_u (S1.A (3 + 1)) (S.I 3 10 * 7 + 0) dy) := ⟨_, rfl⟩
  rw [← hS2] at w1
  have w2 := c_tell (E := E) (d := e) (B := B) (S := S2) (c := c) (a := 3) (s := S.I 3 10) (w := 1) (v := co) (by omega) (by omega) (by omega) hn (by omega) (by omega)
  obtain ⟨S3, hS3⟩ : ∃ S3, S3 = S2.sA (3 + 1) (mm_u (S2.A (3 + 1)) (S.I 3 10 * 7 + 1) co) := ⟨_, rfl⟩
  rw [← hS3] at w2
  have t4 : S3.A (3 + 1) = mm_u (mm_u f' (S.I 3 10 * 7 + 0) dy) (S.I 3 10 * 7 + 1) co := by rw [hS3, hS2, hS1]; rfl
  have tI : ∀ x k, ¬ (x = 3 ∧ k = 10) → S3.I x k = S.I x k := fun x k hx => by
    rw [hS3, hS2, hS1]
    show (S.sI 3 10 _).I x k = _
    exact mm_gI_ne hx
  have tA : ∀ x, x ≠ 4 → S3.A x = S.A x := fun x hx => by
    rw [hS3, hS2, hS1, mm_gA_ne hx, mm_gA_ne hx, mm_gA_ne hx]
    rfl
  have t10 : S3.I 3 10 = S.I 3 10 + 1 := by rw [hS3, hS2, hS1]; exact mm_gs.1 _ _ _ _
  have q3 : pp_EQ S3 3 (iv_ad (S.A 102) dy co) := by
    refine iv_ad_EQ (S := S) (T := S3) hR (by omega) hQ d0 c0 t10 (tI 3 11 (by omega)) (fun w w0 w1 => ?_) (fun i hi => ?_) (tA _ (by omega)) (tA _ (by omega)) (tA _ (by omega))
    · rw [t4, eN]
      have y := g1 w w0 w1
      rcases (by omega : w = 0 ∨ w = 1 ∨ (w ≠ 0 ∧ w ≠ 1)) with r | r | r
      · rw [r, mm_u_ne (by omega), mm_u_eq]; rfl
      · rw [r, mm_u_eq]; rfl
      · rw [mm_u_ne (by omega), mm_u_ne (by omega), y]
        unfold pp_t0 iv_nw
        rw [if_neg r.1, if_neg r.2]
    · rw [t4, mm_u_ne (by omega), mm_u_ne (by omega)]
      exact g2 i (by omega)
  have hNK := pp_EQ_NK rA q3
  have b3 := hNK.2.2.1 j (by omega) (by omega)
  have b4 := hNK.2.2.2.1 i (by omega) (by omega)
  obtain ⟨V, hV⟩ : ∃ V, V = (S3.sA (3 + 3) (mm_u (S3.A (3 + 3)) j (mm_ior (S3.A (3 + 3) j) (mm_pw i)))).sA (3 + 4) (mm_u (S3.A (3 + 4)) i (mm_ior (S3.A (3 + 4) i) (mm_pw j))) := ⟨_, rfl⟩
  have cj := c_join (E := E) (d := e) (B := B) (S := S3) (c := c) (a := 3) (i := i) (j := j) (by omega) (by omega) (by omega) (by omega) (by omega) (by omega) b3.1 b4.1
  rw [← hV] at cj
  have aP := iv_jn_aP (f := iv_ad (S.A 102) dy co) (i := i) (j := j) (by omega)
  have qV : pp_EQ V 3 (iv_jn (iv_ad (S.A 102) dy co) i j) := pp_EQ_join (S := S3) (T := V) rA q3 (by rw [hV]; rfl) (by rw [hV]; rfl) (by rw [hV]; rfl) (by rw [hV]; rfl) (by omega) (by omega) (by omega) (by omega) (by rw [hV]; rfl) (by rw [hV]; rfl) (iv_jn_ne (by omega) (by omega) (by omega)) (iv_jn_ne (by omega) (by omega) (by omega)) aP (fun s w s0 s1 w0 w1 => iv_jn_ne (by omega) (by omega) (by omega)) (fun s w s0 s1 w0 w1 => iv_jn_ne (by omega) (by omega) (by omega))
  have l13 := iv_13 h
  obtain ⟨T, t1, t2, t3, t4', t5, t6⟩ := iv_setl (E := E) (d := e) (B := B) (S := V) (c := c) (by omega) hG qV (by
    have y : V.A (3 + 10) = S.A (3 + 10) := by rw [hV]; exact tA _ (by omega)
    rw [y]; exact l13)
  have vI : ∀ x k, V.I x k = S3.I x k := fun x k => by rw [hV]; rfl
  have vA : ∀ x, x ≠ 6 → x ≠ 7 → V.A x = S3.A x := fun x h6 h7 => by rw [hV, mm_gA_ne h7, mm_gA_ne h6]
  have hc : iv_cP S T (iv_jn (iv_ad (S.A 102) dy co) i j) := by
    refine ⟨t2, t3, by rw [t4', vI, tI 3 12 (by omega)], fun x k hx => by rw [t5 x k (by omega), vI, tI x k (by omega)], fun x hx => ?_, by rw [t6 8 (by omega), vA 8 (by omega) (by omega), tA 8 (by omega)], by rw [t6 9 (by omega), vA 9 (by omega) (by omega), tA 9 (by omega)]⟩
    rw [t6 x (by omega), vA x (by omega) (by omega), tA x (by omega)]
  obtain ⟨U, u1, u2⟩ := iv_note (E := E) (d := e) (B := B) (c := c) (kd := 8) (st := S.I 3 10) (ws := 0) (by omega) h hc
  refine ⟨U, mm_v110 (by omega) (fun F e' hF he => ?_), hG, u2⟩
  obtain rfl : e = e' := by omega
  rw [mm_e110_0]
  simp (disch := omega) only [mm_ptP, mm_ptN, mm_br_le]
  rw [if_neg (by omega), iv_CI h (by omega) ⟨by omega, by omega⟩, if_pos hs, iv_CF hE (by omega) (by omega) (by omega) ⟨by omega, by omega⟩, if_pos (by omega), iv_CF hE (by omega) (by omega) (by omega) ⟨by omega, by omega⟩, if_pos (by omega)]
  simp (disch := omega) only [mm_ptP]
  rw [g3, mm_cI_ok, mm_e110_48]
  simp (disch := omega) only [mm_ptP]
  rw [w1, mm_cV_ok]
  simp (disch := omega) only [mm_ptP]
  rw [w2, mm_cV_ok, mm_br_eq (by omega) (by omega) (by omega) (by omega)]
  rcases hij with ⟨r0, r1, r2⟩ | ⟨r0, r1, r2⟩
  · rw [r1, r2] at cj
    rw [if_pos r0]
    simp (disch := omega) only [mm_ptP]
    rw [cj, mm_cV_ok, mm_e110_98]
    simp (disch := omega) only [mm_ptP]
    rw [t1, mm_cV_ok]
    simp (disch := omega) only [mm_ptP]
    rw [u1, mm_cV_ok]
  · rw [r1, r2] at cj
    rw [if_neg (by omega)]
    simp (disch := omega) only [mm_ptP]
    rw [cj, mm_cV_ok, mm_e110_98]
    simp (disch := omega) only [mm_ptP]
    rw [t1, mm_cV_ok]
    simp (disch := omega) only [mm_ptP]
    rw [u1, mm_cV_ok]
end
section
variable {E : mm_E} {d B : Nat} {S : mm_S} {k : Nat} {c : mm_N}
theorem iv_addM {U : mm_S} (h : iv S k) (hd : 3 ≤ d) {s u dy co i j : Int} (e0 : U.I 101 4 = S.I 101 4) (e102 : U.A 102 = S.A 102) (e104 : U.A 104 = S.A 104) (e105 : U.A 105 = S.A 105) (e106 : U.A 106 = S.A 106) (hu : u = 0 ∨ u = 1) (hs : 0 ≤ s ∧ s < S.I 3 10) (hn : S.I 3 10 < 12) (d0 : 0 ≤ dy ∧ dy ≤ 9) (c0 : 0 ≤ co ∧ co ≤ 999) (hij : (u = 0 ∧ i = s ∧ j = S.I 3 10) ∨ (u = 1 ∧ i = S.I 3 10 ∧ j = s)) : ∃ P t' f', iv_p1 S P ∧ iv_p2 S P ∧ iv_TD (S.I 3 10 + 1) (S.A 8) t' (S.A 9) f' ∧ mm_ev E d 174 [.ref (mm_ad B 101), .int (mm_i s), .int (mm_i u), .int (mm_i dy), .int (mm_i co)] (mm_hp B U c) = mm_oI (S.I 3 10) (mm_hp B ((((((U.sI 101 0 0).sI 101 4 (min (S.I 36 3 + 1) 20)).sA 104 P).sA 102 (iv_jn (iv_ad (S.A 102) dy co) i j)).sA 105 t').sA 106 f') c) := by
  have nn := iv_nn h
  have eN := iv_N h
  have hR := h.2.1.1
  have mm := hR.2.2.1
  obtain ⟨e, rfl⟩ : ∃ e, d = e + 1 := ⟨d - 1, by omega⟩
  obtain ⟨F, hF, he⟩ := mm_w174 E e B U c (mm_i s) (mm_i u) (mm_i dy) (mm_i co)
  obtain ⟨P, p1, p2, p3⟩ := iv_keep (E := E) (d := e) (B := B) (c := c) (V := U.sI 101 0 0) (by omega) h (by rw [mm_gI_ne (by omega)]; exact e0) e102 e104
  obtain ⟨K, hK⟩ : ∃ K, K = ((U.sI 101 0 0).sI 101 4 (min (S.I 36 3 + 1) 20)).sA 104 P := ⟨_, rfl⟩
  rw [← hK] at p3
  have kA : K.A 102 = S.A 102 := by rw [hK]; exact e102
  have k5 : K.A 105 = S.A 105 := by rw [hK]; exact e105
  have k6 : K.A 106 = S.A 106 := by rw [hK]; exact e106
  obtain ⟨f1, l1, l2, l3⟩ := m_lay (E := E) (d := e) (B := B) (S := K) (c := c) (r := 102) (s := S.I 3 10) (dy := dy) (co := co) (by omega) rfl (by omega) hn
  rw [kA] at l2
  obtain ⟨m', f2, n0, n1, n2, n3⟩ := l_addN (E := E) (B := B) (S := K) (c := c) (cl := mm_ev E e) (n := S.I 3 10) (x1 := mm_i s) (x2 := mm_i u) (x3 := mm_i dy) (x4 := mm_i co) (by omega) hn 6 0 (F + 98) f1 (by omega) (by omega) (fun i i0 i1 => by omega)
  have n3 : mm_r174_71 E (mm_ev E e) (F + 98) (mm_ad B 101) (mm_i s) (mm_i u) (mm_i dy) (mm_i co) (mm_i (S.I 3 10)) (mm_i 0) (mm_hp B (K.sA 102 f1) c) = _ := n3
  obtain ⟨m, rfl⟩ : ∃ m, m' = m + 2 := ⟨m' - 2, by omega⟩
  have z0 : f2 0 = S.I 3 10 := by rw [n2 0 (by omega), l2 0 (by omega), eN]
  have row : mm_u f2 0 (S.I 3 10 + 1) = iv_ad (S.A 102) dy co := by
    funext x
    by_cases x0 : x = 0
    · rw [x0, mm_u_eq, iv_ad_0, eN]
    · rw [mm_u_ne x0]
      by_cases xn : 87 + 6 * S.I 3 10 ≤ x ∧ x < 87 + 6 * S.I 3 10 + 6
      · have y := n1 (x - (87 + 6 * S.I 3 10)) (by omega) (by omega)
        rw [show 87 + 6 * S.I 3 10 + (x - (87 + 6 * S.I 3 10)) = x by omega] at y
        rw [y]
        have y2 := iv_ad_m (f := S.A 102) (dy := dy) (co := co) (w := x - (87 + 6 * S.I 3 10)) (by omega) (by omega) (by omega) (by omega)
        rw [show 87 + 6 * S.A 102 0 + (x - (87 + 6 * S.I 3 10)) = x by omega] at y2
        rw [y2]
      · rw [n2 x xn]
        by_cases xt : 3 + 7 * S.I 3 10 ≤ x ∧ x < 3 + 7 * S.I 3 10 + 7
        · obtain ⟨v0, v1, v2, v3, v4, v5, v6⟩ := iv_nw_v (dy := dy) (co := co)
          have y2 : ∀ w : Int, 0 ≤ w → w < 7 → x = 3 + 7 * S.I 3 10 + w → iv_ad (S.A 102) dy co x = iv_nw dy co w := fun w w0 w1 e1 => by
            rw [e1, ← eN]
            exact iv_ad_n (by omega) w0 w1
          rcases (by omega : x = 3 + 7 * S.I 3 10 + 0 ∨ x = 3 + 7 * S.I 3 10 + 1 ∨ x = 3 + 7 * S.I 3 10 + 2 ∨ x = 3 + 7 * S.I 3 10 + 3 ∨ x = 3 + 7 * S.I 3 10 + 4 ∨ x = 3 + 7 * S.I 3 10 + 5 ∨ x = 3 + 7 * S.I 3 10 + 6) with r | r | r | r | r | r | r
          · rw [y2 0 (by omega) (by omega) r, r, l1.1, v0]
          · rw [y2 1 (by omega) (by omega) r, r, l1.2.1, v1]
          · rw [y2 2 (by omega) (by omega) r, r, l1.2.2.1, v2]
          · rw [y2 3 (by omega) (by omega) r, r, l1.2.2.2.1, v3]
          · rw [y2 4 (by omega) (by omega) r, r, l1.2.2.2.2.1, v4]
          · rw [y2 5 (by omega) (by omega) r, r, l1.2.2.2.2.2.1, v5]
          · rw [y2 6 (by omega) (by omega) r, r, l1.2.2.2.2.2.2, v6]
        · rw [l2 x xt, iv_ad_ne x0 (by omega) (by omega)]
  have a2 : iv_ad (S.A 102) dy co 2 = S.A 102 2 := iv_ad_ne (by omega) (by omega) (by omega)
  have mj := m_join (E := E) (d := e) (B := B) (S := K.sA 102 (iv_ad (S.A 102) dy co)) (c := c) (r := 102) (i := i) (j := j) (by omega) rfl (by rw [mm_gs.2.2.2.2.2.2.2.2.1]; omega) (by rw [mm_gs.2.2.2.2.2.2.2.2.1]; omega)
  rw [mm_gs.2.2.2.2.2.2.2.2.1] at mj
  obtain ⟨J, hJ⟩ : ∃ J, J = K.sA 102 (iv_jn (iv_ad (S.A 102) dy co) i j) := ⟨_, rfl⟩
  have mj : mm_ev E e 154 [.ref (mm_ad B 102), .int (mm_i i), .int (mm_i j)] (mm_hp B (K.sA 102 (iv_ad (S.A 102) dy co)) c) = mm_oV (mm_hp B J c) := by
    rw [mj, hJ]
    simp only [mm_gs]
    rfl
  obtain ⟨f', q1, q2, q3⟩ := m_clear (E := E) (d := e) (B := B) (S := J) (c := c) (s := S.I 3 10) (by omega) (by omega) hn
  have j5 : J.A 105 = S.A 105 := by rw [hJ]; exact k5
  have j6 : J.A 106 = S.A 106 := by rw [hJ]; exact k6
  rw [j5] at q3
  rw [j6] at q2
  refine ⟨P, mm_u (S.A 105) (S.I 3 10) 0, f', p1, p2, ⟨fun t t0 t1 => ?_, fun t t0 t1 => ?_⟩, ?_⟩
  · have y := h.2.2.1.1 t t0 t1
    by_cases z : t = S.I 3 10
    · have y4 := y.2.2.2 (by omega)
      rw [z, mm_u_eq, ← z]
      omega
    · rw [mm_u_ne z]
      exact ⟨y.1, y.2.1, y.2.2.1, fun g => y.2.2.2 (by omega)⟩
  · have y := h.2.2.1.2 t t0 t1
    by_cases z : 40 * S.I 3 10 ≤ t ∧ t < 40 * S.I 3 10 + 40
    · have y4 := y.2.2.2 (by omega)
      have y5 := q1 (t - 40 * S.I 3 10) (by omega) (by omega)
      rw [show 40 * S.I 3 10 + (t - 40 * S.I 3 10) = t by omega] at y5
      rw [y5]
      omega
    · rw [q2 t z]
      exact ⟨y.1, y.2.1, y.2.2.1, fun g => y.2.2.2 (by omega)⟩
  · have vN : (U.sI 101 0 0).A 102 0 = S.I 3 10 := by show U.A 102 0 = _; rw [e102]; exact eN
    have kN : K.A 102 0 = S.I 3 10 := by rw [kA]; exact eN
    rw [he, mm_e174_0]
    simp (disch := omega) only [mm_ptM]
    rw [c_many (by omega), mm_cI_ok, vN, mm_br_eq (by omega) (by omega) (by omega) (by omega), if_neg (by omega), iv_MSr (by omega) (by omega) ⟨by omega, by omega⟩, if_pos (by omega), iv_MI (by omega) ⟨by omega, by omega⟩ (by omega) (by omega), if_pos d0, iv_MI (by omega) ⟨by omega, by omega⟩ (by omega) (by omega), if_pos c0, mm_e174_46, p3, mm_cV_ok, c_many (by omega), mm_cI_ok, kN]
    simp (disch := omega) only [mm_ptM]
    rw [l3, mm_cV_ok, n3, mm_e174_71]
    simp (disch := omega) only [mm_ptM, mm_gs, mm_hm, mm_br_le, mm_br_eq]
    rw [if_pos (by omega), z0, row, ← hK]
    rcases hij with ⟨r0, r1, r2⟩ | ⟨r0, r1, r2⟩
    · rw [r1, r2] at mj
      rw [if_pos r0, mj, mm_cV_ok, mm_e174_138, q3, mm_cV_ok, ← hJ]
    · rw [r1, r2] at mj
      rw [if_neg (by omega), mj, mm_cV_ok, mm_e174_138, q3, mm_cV_ok, ← hJ]
theorem i_add (h : iv S k) (hE : pp_OE E B) (hd : 6 ≤ d) {s u dy co : Int} (hs : iv_n s) (hu : u = 0 ∨ u = 1) (hdy : iv_n dy) (hco : iv_n co) : iv_ok0 E B d S k 110 [.ref (mm_ad B 0), .int (mm_i s), .int (mm_i u), .int (mm_i dy), .int (mm_i co)] 174 [.ref (mm_ad B 101), .int (mm_i s), .int (mm_i u), .int (mm_i dy), .int (mm_i co)] := by
  have nn := iv_nn h
  have eN := iv_N h
  have hR := h.2.1.1
  have mm := hR.2.2.1
  have h2 := h.2.2.2.2.2.2.2.2.2.2.1
  intro c
  have m0 : pp_ml 0 = 0 ∧ pp_mo 0 = 9 ∧ pp_ml 1 = 0 ∧ pp_mo 1 = 999 := by decide
  have vN : (S.sI 101 0 0).A 102 0 = S.I 3 10 := eN
  by_cases p : S.I 3 10 < 12 ∧ (0 ≤ s ∧ s < S.I 3 10) ∧ (0 ≤ dy ∧ dy ≤ 9) ∧ (0 ≤ co ∧ co ≤ 999)
  · obtain ⟨p1, p2, p3, p4⟩ := p
    obtain ⟨i, j, hij⟩ : ∃ i j : Int, (u = 0 ∧ i = s ∧ j = S.I 3 10) ∨ (u = 1 ∧ i = S.I 3 10 ∧ j = s) := by
      rcases hu with r | r
      · exact ⟨s, S.I 3 10, Or.inl ⟨r, rfl, rfl⟩⟩
      · exact ⟨S.I 3 10, s, Or.inr ⟨r, rfl, rfl⟩⟩
    obtain ⟨T, t1, t2, t3⟩ := iv_addC (E := E) (d := d) (B := B) (c := c) h hE (by omega) hu p2 p1 p3 p4 hij
    have c4 := t3.2.2.2.1
    have c5 := t3.2.2.2.2.1
    obtain ⟨P, t', f', q1, q2, q3, q4⟩ := iv_addM (E := E) (d := d) (B := B) (c := c) (U := T) h (by omega) (c4 101 4 (by omega) (by omega)) (c5 102 (by omega) (by omega)) (c5 104 (by omega) (by omega)) (c5 105 (by omega) (by omega)) (c5 106 (by omega) (by omega)) hu p2 p1 p3 p4 hij
    have a0 : iv_ad (S.A 102) dy co 0 = S.A 102 0 + 1 := iv_ad_0
    have a2 : iv_ad (S.A 102) dy co 2 = S.A 102 2 := iv_ad_ne (by omega) (by omega) (by omega)
    have aP := iv_jn_aP (f := iv_ad (S.A 102) dy co) (i := i) (j := j) (by omega)
    have g0 : iv_jn (iv_ad (S.A 102) dy co) i j 0 = S.A 102 0 + 1 := by rw [iv_jn_ne (by omega) (by omega) (by omega), a0]
    unfold pp_aP at aP
    rw [a2] at aP
    refine ⟨T, _, S.I 3 10, t1, q4, iv_aok h t3 (fun x k hx => ?_) (fun x x2 x4 x5 x6 => ?_) (mm_gs.1 _ _ _ _) q1 q2 rfl t2 (Or.inr (Or.inr (Or.inl ⟨rfl, g0, ?_, aP.1, fun l l0 l1 => ?_, ?_, fun t w t0 t1 w0 w1 => ?_, fun t w t0 t1 w0 w1 => ?_⟩))) (fun t t0 t1 => ?_) ?_⟩
    · show ((T.sI 101 0 0).sI 101 4 _).I x k = _
      rw [mm_gI_ne (by omega), mm_gI_ne (by omega)]
    · rw [mm_gA_ne x6, mm_gA_ne x5, mm_gA_ne x2, mm_gA_ne x4]
      rfl
    · rw [iv_jn_ne (by omega) (by omega) (by omega), iv_ad_ne (by omega) (by omega) (by omega)]
    · have y := aP.2.1 l l0 l1
      rw [y.1, y.2]
      exact ⟨iv_ad_ne (by omega) (by omega) (by omega), iv_ad_ne (by omega) (by omega) (by omega)⟩
    · rw [aP.2.2.1, aP.2.2.2]
      omega
    · rw [iv_jn_ne (by omega) (by omega) (by omega), iv_ad_ne (by omega) (by omega) (by omega)]
    · rw [iv_jn_ne (by omega) (by omega) (by omega), iv_ad_ne (by omega) (by omega) (by omega)]
    · rw [g0] at t1
      rw [iv_jn_ne (by omega) (by omega) (by omega)]
      by_cases z : t = S.A 102 0
      · rw [z, iv_ad_n (by omega) (by omega) (by omega), (iv_nw_v (dy := dy) (co := co)).2.2.2.2.2.1]
        omega
      · rw [iv_ad_ne (by omega) (by omega) (by omega)]
        exact h2 t t0 (by omega)
    · rw [g0, eN]
      exact q3
  · refine ⟨S, S.sI 101 0 0, -1, mm_v110 (by omega) (fun F e' hF he => ?_), mm_v174 (by omega) (fun F e' hF he => ?_), iv_up (iv_sc h 0) (by omega)⟩
    · rw [mm_e110_0]
      simp (disch := omega) only [mm_ptP, mm_ptN, mm_br_le]
      by_cases r1 : 12 ≤ S.I 3 10
      · rw [if_pos r1]
      rw [if_neg r1, iv_CI h (by omega) hs]
      by_cases r2 : 0 ≤ s ∧ s < S.I 3 10
      · rw [if_pos r2, iv_CF hE (by omega) (by omega) (by omega) hdy]
        by_cases r3 : 0 ≤ dy ∧ dy ≤ 9
        · rw [if_pos (by omega), iv_CF hE (by omega) (by omega) (by omega) hco, if_neg (by omega)]
        · rw [if_neg (by omega)]
      · rw [if_neg r2]
    · rw [mm_e174_0]
      simp (disch := omega) only [mm_ptM]
      rw [c_many (by omega), mm_cI_ok, vN, mm_br_eq (by omega) (by omega) (by omega) (by omega)]
      by_cases r1 : S.I 3 10 = 12
      · rw [if_pos r1]
      rw [if_neg r1, iv_MS h (by omega) hs]
      by_cases r2 : 0 ≤ s ∧ s < S.I 3 10
      · rw [if_pos r2, iv_MI (by omega) hdy (by omega) (by omega)]
        by_cases r3 : 0 ≤ dy ∧ dy ≤ 9
        · rw [if_pos r3, iv_MI (by omega) hco (by omega) (by omega), if_neg (by omega)]
        · rw [if_neg r3]
      · rw [if_neg r2]
end
