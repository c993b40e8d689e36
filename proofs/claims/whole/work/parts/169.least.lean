/-! LEAST; PRICES with one number changed -/
def iv_bp (f : Int → Int) (v : Int) : Prop := ∃ wd L, bb_RS f wd L ∧ bb_isB f wd v
theorem iv_bp_one {f : Int → Int} {v w : Int} (h : iv_bp f v) (g : iv_bp f w) : v = w := by
  obtain ⟨wd, L, a, b⟩ := h
  obtain ⟨wd', L', a', b'⟩ := g
  exact bb_isB_one (bb_isB_wd a a' b) b'
section
variable {E : mm_E} {d B : Nat} {S : mm_S} {k : Nat}
theorem iv_FR {T : mm_S} (h : iv S k) (g : bb_FR S T) : iv T k := iv_fr h (fun x k _ => by rw [g.1]) (fun x hx => g.2.1 x (by unfold iv_rA at hx; omega) (by unfold iv_rA at hx; omega))
theorem iv_PG {T : mm_S} (h : iv S k) (g : bb_PG S T) : iv T k := iv_fr h (fun x k hx => g.1 x k (by unfold iv_rI at hx; omega)) (fun x hx => g.2.2.2 x (by unfold iv_rA at hx; omega))
theorem iv_mL {f : Int → Int} (hd : 19 ≤ d) (eF : S.A 102 = f) (hR : pp_RO f) (c : mm_N) : ∃ T v, bb_PG S T ∧ iv_bp f v ∧ (v = -1 ∨ (0 ≤ v ∧ v < 1000000000)) ∧ mm_ev E d 195 [.ref (mm_ad B 101)] (mm_hp B S c) = mm_oI v (mm_hp B T c) := by
  obtain ⟨wd, L, hS⟩ := bb_RS_ex hR
  obtain ⟨T, H, v, a, b, c1, e, g⟩ := m_priceOfBest (E := E) (d := d) (B := B) (c := c) hd eF hR hS
  refine ⟨T, v, a, ⟨wd, L, hS, bb_BM_B b hS c1 e⟩, ?_, g⟩
  rcases e with e | e
  · exact Or.inl e.1
  · exact Or.inr ⟨e.1, e.2.1⟩
theorem iv_bp_r (E : mm_E) (S : mm_S) {f : Int → Int} {v : Int} (hR : pp_RO f) (h : iv_bp f v) : v = -1 ∨ (0 ≤ v ∧ v < 1000000000) := by
  obtain ⟨T, w, _, b, r, _⟩ := iv_mL (E := E) (d := 19) (B := 0) (S := S.sA 102 f) (f := f) (by omega) (mm_gs.2.2.2.2.2.2.2.2.1 _ _ _) hR (none, (0, 0))
  rw [iv_bp_one h b]
  exact r
theorem iv_cL {f : Int → Int} (hd : 5 ≤ d) (hR : pp_RO f) (hE : pp_EQ S 3 f) (hT : pp_NT S 3) (c : mm_N) : ∃ T v, bb_FR S T ∧ iv_bp f v ∧ mm_ev E d 5 [.ref (mm_ad B 40), .ref (mm_ad B 3)] (mm_hp B S c) = mm_oI v (mm_hp B T c) ∧ bb_BS S T 3 v := by
  obtain ⟨T, v, a, b, g⟩ := c_leastPrice (E := E) (d := d) (B := B) (c := c) (a := 3) hd (by omega) hT
  exact ⟨T, v, a, ⟨_, _, bb_RS_of hR hE hT, (bb_BS_lx hR hE hT b).1⟩, g, b⟩
theorem iv_cL14 {f q : Int → Int} (hd : 5 ≤ d) (hR : pp_RO f) (hE : pp_EQ (S.sA 16 q) 14 f) (hT : pp_NT S 14) (c : mm_N) : ∃ T v, bb_FR S T ∧ iv_bp f v ∧ mm_ev E d 5 [.ref (mm_ad B 40), .ref (mm_ad B 14)] (mm_hp B S c) = mm_oI v (mm_hp B T c) := by
  obtain ⟨T, v, a, b, g⟩ := c_leastPrice (E := E) (d := d) (B := B) (c := c) (a := 14) hd (by omega) hT
  have hT' : pp_NT (S.sA 16 q) 14 := hT
  have b' : bb_BS (S.sA 16 q) T 14 v := b
  exact ⟨T, v, a, ⟨_, _, bb_RS_of hR hE hT', (bb_BS_lx hR hE hT' b').1⟩, g⟩
theorem i_least (h : iv S k) (hd : 20 ≤ d) : iv_ok0 E B d S k 118 [.ref (mm_ad B 0)] 204 [.ref (mm_ad B 101)] := by
  intro c
  obtain ⟨e, rfl⟩ : ∃ e, d = e + 1 := ⟨d - 1, by omega⟩
  obtain ⟨T, v, a1, a2, a3, _⟩ := iv_cL (E := E) (d := e) (B := B) (by omega) h.2.1.1 h.2.1.2.1 h.2.1.2.2 c
  have hT := iv_FR h a1
  obtain ⟨U, w, b1, b2, b3, b4⟩ := iv_mL (E := E) (d := e) (B := B) (S := T.sI 101 0 0) (f := T.A 102) (by omega) rfl hT.2.1.1 c
  rw [a1.2.1 102 (by omega) (by omega)] at b2
  refine ⟨T, U, v, mm_v118 (by omega) (fun F e' hF he => ?_), mm_v204 (by omega) (fun F e' hF he => ?_), iv_up (iv_PG (iv_sc hT 0) b1) (by omega)⟩
  · obtain rfl : e' = e := by omega
    rw [mm_e118_0]
    simp (disch := omega) only [mm_ptP]
    rw [a3, mm_cI_ok]
  · obtain rfl : e' = e := by omega
    rw [mm_e204_0]
    simp (disch := omega) only [mm_ptM]
    rw [b4, mm_cI_ok, iv_bp_one a2 b2]
-- the row with one number changed
theorem iv_row {f : Int → Int} (hR : pp_RO f) {s w v : Int} (s0 : 0 ≤ s) (s1 : s < f 0) (w0 : 0 ≤ w) (w1 : w < 7) (hv : pp_tR (fun k => mm_u f (3 + 7 * s + w) v (3 + k)) s) : pp_RO (mm_u f (3 + 7 * s + w) v) := by
  have n := hR.1
  have e : ∀ i : Int, i ≠ 3 + 7 * s + w → mm_u f (3 + 7 * s + w) v i = f i := fun i hi => mm_u_ne hi
  refine pp_RO_same hR (e 0 (by omega)) (by rw [e 1 (by omega)]; exact hR.2.1) (e 2 (by omega)) (fun l l0 l1 => ⟨e _ (by omega), e _ (by omega)⟩) (fun t t0 t1 => ?_)
  by_cases q : t = s
  · rw [q]; exact hv
  · have g := hR.2.2.2.2.1 t t0 t1
    unfold pp_tR at g ⊢
    simp only [] at g ⊢
    rw [e _ (by omega), e _ (by omega), e _ (by omega), e _ (by omega), e _ (by omega), e _ (by omega), e _ (by omega)]
    exact g
/-- the class's draft, once it became the network -/
theorem iv_draft (h : iv S k) (hd : 4 ≤ d) (c : mm_N) : ∃ T, mm_ev E d 35 [.ref (mm_ad B 14), .ref (mm_ad B 3)] (mm_hp B S c) = mm_oV (mm_hp B T c) ∧ pp_NT T 14 ∧ pp_EQ (T.sA 16 (S.A 5)) 14 (S.A 102) ∧ (∀ x k, x ≠ 14 → T.I x k = S.I x k) ∧ (∀ x, ¬ (15 ≤ x ∧ x ≤ 24) → T.A x = S.A x) := by
  have hQ := h.2.1.2.1
  have hn := iv_nn h
  have eN := iv_N h
  obtain ⟨T, t1, t2, t3, t4, t5, t6, t7, t8, t9, t10, t11⟩ := c_becomeN (E := E) (d := d) (B := B) (c := c) (S := S) (a := 14) (b := 3) hd (by omega) (by omega) (by omega) h.2.1.2.2.1 h.2.1.2.2.2.1 (fun s s0 s1 => (h.2.2.2.2.1 s s0 s1).2.1)
  refine ⟨T, t11, t1, ⟨?_, ?_, fun s s0 s1 => ?_, fun s w s0 s1 w0 w1 => ?_, fun s s0 s1 => t1.1.2.2.2.2 s s0 s1, hQ.2.2.2.2.2.1, hQ.2.2.2.2.2.2⟩, t7, fun x hx => t10 x (by omega) (by omega) (by omega) (by omega) (by omega) (by omega) (by omega)⟩
  · show T.I 14 10 = _
    rw [t2]; exact hQ.1
  · show T.I 14 11 = _
    rw [t3]; exact hQ.2.1
  · have z := hQ.2.2.1 s s0 s1
    have y := t6 s s0 s1
    exact ⟨y.1.trans z.1, y.2.trans z.2⟩
  · have z := hQ.2.2.2.1 s w s0 s1 w0 w1
    exact (t5 (s * 7 + w) (by omega) (by omega)).trans z
end
