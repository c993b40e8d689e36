/-! WHAT SUPPLIERS COST, by the waits -/
section
variable {E : mm_E} {d B : Nat} {S : mm_S} {c : mm_N} {a : Nat}
theorem pp_vr_st {f g v : Int → Int} {m b h l : Int} (hv : pp_vr f g (m - 1) b v) (hh : 0 ≤ h ∧ h ≤ 288230376151711744 ∧ 0 ≤ l ∧ l ≤ b ∧ h * 18446744073709551616 + l = v m) : pp_vr (mm_u f m h) (mm_u g m l) m b v := by
  intro j j1 j2
  by_cases e : j = m
  · subst e
    simp only [mm_u_eq]
    exact hh
  · simp only [mm_u_ne e]
    exact hv j j1 (by omega)
/-- the cheapest of a row no later than w -/
def bb_am (cc : Int → Int) (last w : Int) : Int := pp_mr 5316911983139663491615228241121378304 cc (min w last + 1).toNat
theorem bb_am_r {cc : Int → Int} {last : Int} (hc : ∀ i : Int, 0 ≤ i → i ≤ last → 0 ≤ cc i) (w : Int) : 0 ≤ bb_am cc last w ∧ bb_am cc last w ≤ 5316911983139663491615228241121378304 := by
  have h := pp_mr_mi 5316911983139663491615228241121378304 cc (min w last + 1).toNat
  refine ⟨pp_mi_nn h (by omega) ?_, h.1⟩
  rintro x ⟨i, i1, i2, rfl⟩
  exact hc i i1 (by omega)
theorem bb_am_st {cc : Int → Int} {last w : Int} (h0 : 0 ≤ w) (hl : 0 ≤ last) : bb_am cc last w = if w ≤ last then min (bb_am cc last (w - 1)) (cc w) else bb_am cc last (w - 1) := by
  unfold bb_am
  by_cases h : w ≤ last
  · rw [if_pos h, show (min w last + 1).toNat = w.toNat + 1 by omega, show (min (w - 1) last + 1).toNat = w.toNat by omega]
    show min (pp_mr 5316911983139663491615228241121378304 cc w.toNat) (cc (w.toNat : Int)) = _
    rw [show ((w.toNat : Nat) : Int) = w by omega]
  · rw [if_neg h, show (min w last + 1).toNat = (min (w - 1) last + 1).toNat by omega]
def bb_nb (by_ cc : Int → Int) (last w : Int) : Int := min 5316911983139663491615228241121378304 (by_ w + bb_am cc last w)
def bb_nj (by_ ju cc : Int → Int) (last w : Int) : Int := if w ≤ last then min (min 5316911983139663491615228241121378304 (ju w + bb_am cc last w)) (by_ w + cc w) else min 5316911983139663491615228241121378304 (ju w + bb_am cc last w)
theorem l_addS {k : Nat} {last latest b : Int} {by_ ju cc : Int → Int} (hd : 1 ≤ d) (hk : k < 12) (hl : 0 ≤ latest ∧ latest < 120) (hla : 0 ≤ last ∧ last < 120) (hby : pp_vr (S.L 43) (S.L 44) latest b by_) (hju : pp_vr (S.L 46) (S.L 47) latest b ju) (hc : pp_vr (S.L (58 + 3 * k)) (S.L (59 + 3 * k)) last 72057594037927936 cc) (hb : 0 ≤ b ∧ b + 72057594037927936 ≤ 2305843009213693952) : ∀ (j n : Nat) (w : Int) (f g f2 g2 p q : Int → Int), 0 ≤ w → w + j = latest + 1 → 4 * j < n → (∀ i : Int, w ≤ i → f i = S.L 43 i ∧ g i = S.L 44 i ∧ f2 i = S.L 46 i ∧ g2 i = S.L 47 i) → pp_vr f g (w - 1) (b + 72057594037927936) (bb_nb by_ cc last) → pp_vr f2 g2 (w - 1) (b + 72057594037927936) (bb_nj by_ ju cc last) → (0 ≤ p 0 ∧ p 0 ≤ 288230376151711744 ∧ 0 ≤ q 0 ∧ q 0 ≤ 72057594037927936 ∧ p 0 * 18446744073709551616 + q 0 = bb_am cc last (w - 1)) →
    ∃ f' g' f2' g2' p' q', pp_vr f' g' latest (b + 72057594037927936) (bb_nb by_ cc last) ∧ pp_vr f2' g2' latest (b + 72057594037927936) (bb_nj by_ ju cc last) ∧ mm_r12_15 E (mm_ev E d) n (mm_ad B 40) (mm_ad B (57 + 3 * k)) (mm_i last) (mm_i latest) (mm_i w) (mm_hp B ((((((S.sL 43 f).sL 44 g).sL 46 f2).sL 47 g2).sL 52 p).sL 53 q) c) = mm_oV (mm_hp B ((((((S.sL 43 f').sL 44 g').sL 46 f2').sL 47 g2').sL 52 p').sL 53 q') c) := by
  intro j
  induction j with
  | zero =>
    intro n w f g f2 g2 p q w0 wj hn hs hf hf2 hp
    obtain ⟨n, rfl⟩ : ∃ m, n = m + 1 := ⟨n - 1, by omega⟩
    refine ⟨f, g, f2, g2, p, q, by rw [show latest = w - 1 by omega]; exact hf, by rw [show latest = w - 1 by omega]; exact hf2, ?_⟩
    rw [mm_e12_15, mm_br_lt (by omega) (by omega) (by omega) (by omega), if_pos (by omega)]
  | succ j ih =>
    intro n w f g f2 g2 p q w0 wj hn hs hf hf2 hp
    obtain ⟨n, rfl⟩ : ∃ m, n = m + 4 := ⟨n - 4, by omega⟩
    have sw := hs w (Int.le_refl w)
    have rb := hby w w0 (by omega)
    have rj := hju w w0 (by omega)
    have am0 := bb_am_r (cc := cc) (last := last) (fun i i1 i2 => by have := hc i i1 i2; omega) w
    have ams := bb_am_st (cc := cc) (last := last) w0 hla.1
    -- the cheapest no later
    have s1 : ∃ p1 q1, (0 ≤ p1 ∧ p1 ≤ 288230376151711744 ∧ 0 ≤ q1 ∧ q1 ≤ 72057594037927936 ∧ p1 * 18446744073709551616 + q1 = bb_am cc last w) ∧ mm_r12_15 E (mm_ev E d) (n + 4) (mm_ad B 40) (mm_ad B (57 + 3 * k)) (mm_i last) (mm_i latest) (mm_i w) (mm_hp B ((((((S.sL 43 f).sL 44 g).sL 46 f2).sL 47 g2).sL 52 p).sL 53 q) c) = mm_r12_49 E (mm_ev E d) (n + 3) (mm_ad B 40) (mm_ad B (57 + 3 * k)) (mm_i last) (mm_i latest) (mm_i w) (mm_hp B ((((((S.sL 43 f).sL 44 g).sL 46 f2).sL 47 g2).sL 52 (mm_u p 0 p1)).sL 53 (mm_u q 0 q1)) c) := by
      by_cases h : w ≤ last
      · have rc := hc w w0 h
        rw [if_pos h] at ams
        obtain ⟨h', l', hh, he⟩ := c_lowerP (E := E) (d := d) (B := B) (c := c) (S := ((((((S.sL 43 f).sL 44 g).sL 46 f2).sL 47 g2).sL 52 p).sL 53 q)) (h := S.L (58 + 3 * k) w) (l := S.L (59 + 3 * k) w) hd (by omega) (by omega) (by omega) (by omega) (by simp (disch := omega) only [mm_gs, mm_gL_ne]; omega) (by simp (disch := omega) only [mm_gs, mm_gL_ne]; omega)
        simp (disch := omega) only [pp_cm, mm_gs, mm_gL_ne] at hh he
        refine ⟨h', l', ⟨by omega, by omega, by omega, by omega, by omega⟩, ?_⟩
        rw [mm_e12_15, mm_br_lt (by omega) (by omega) (by omega) (by omega), if_neg (by omega), mm_br_lt (by omega) (by omega) (by omega) (by omega), if_neg (by omega)]
        simp (disch := omega) only [mm_ptB, pp_pq, mm_gs, mm_gL_ne]
        rw [he, mm_cV_ok]
      · rw [if_neg h] at ams
        refine ⟨p 0, q 0, ⟨by omega, by omega, by omega, by omega, by omega⟩, ?_⟩
        rw [mm_e12_15, mm_br_lt (by omega) (by omega) (by omega) (by omega), if_neg (by omega), mm_br_lt (by omega) (by omega) (by omega) (by omega), if_pos (by omega), pp_u_id, pp_u_id]
    obtain ⟨p1, q1, hp1, e1⟩ := s1
    rw [e1]
    -- just then: all others no later
    obtain ⟨h2, l2, hh2, he2⟩ := c_put (E := E) (d := d) (B := B) (c := c) (S := ((((((S.sL 43 f).sL 44 g).sL 46 f2).sL 47 g2).sL 52 (mm_u p 0 p1)).sL 53 (mm_u q 0 q1))) (a := 45) (a1 := 46) (a2 := 47) (i := w) (h := f2 w + p1) (l := g2 w + q1) hd rfl rfl (by omega) (by omega) (by omega) (by omega) (by omega) (by omega) (by omega)
    simp (disch := omega) only [pp_cm, mm_gs, mm_gL_ne] at he2
    rw [mm_e12_49]
    simp (disch := omega) only [mm_ptB, pp_pq, mm_gs, mm_gL_ne, mm_hm, mm_u_eq]
    rw [he2, mm_cV_ok]
    -- just then: this one
    have s3 : ∃ h3 l3, (0 ≤ h3 ∧ h3 ≤ 288230376151711744 ∧ 0 ≤ l3 ∧ l3 ≤ b + 72057594037927936 ∧ h3 * 18446744073709551616 + l3 = bb_nj by_ ju cc last w) ∧ mm_r12_98 E (mm_ev E d) (n + 2) (mm_ad B 40) (mm_ad B (57 + 3 * k)) (mm_i last) (mm_i latest) (mm_i w) (mm_hp B ((((((S.sL 43 f).sL 44 g).sL 46 (mm_u f2 w h2)).sL 47 (mm_u g2 w l2)).sL 52 (mm_u p 0 p1)).sL 53 (mm_u q 0 q1)) c) = mm_r12_149 E (mm_ev E d) (n + 1) (mm_ad B 40) (mm_ad B (57 + 3 * k)) (mm_i last) (mm_i latest) (mm_i w) (mm_hp B ((((((S.sL 43 f).sL 44 g).sL 46 (mm_u f2 w h3)).sL 47 (mm_u g2 w l3)).sL 52 (mm_u p 0 p1)).sL 53 (mm_u q 0 q1)) c) := by
      unfold bb_nj
      by_cases h : w ≤ last
      · have rc := hc w w0 h
        rw [if_pos h]
        obtain ⟨h', l', hh, he⟩ := c_lower (E := E) (d := d) (B := B) (c := c) (S := ((((((S.sL 43 f).sL 44 g).sL 46 (mm_u f2 w h2)).sL 47 (mm_u g2 w l2)).sL 52 (mm_u p 0 p1)).sL 53 (mm_u q 0 q1))) (a := 45) (a1 := 46) (a2 := 47) (i := w) (h := f w + S.L (58 + 3 * k) w) (l := g w + S.L (59 + 3 * k) w) hd rfl rfl (by omega) (by omega) (by omega) (by omega) (by omega) (by omega) (by omega) (by simp (disch := omega) only [mm_gs, mm_gL_ne, mm_u_eq]; omega) (by simp (disch := omega) only [mm_gs, mm_gL_ne, mm_u_eq]; omega)
        simp (disch := omega) only [pp_cm, mm_gs, mm_gL_ne, mm_u_eq, mm_u_u] at hh he
        refine ⟨h', l', ⟨by omega, by omega, by omega, by omega, by omega⟩, ?_⟩
        rw [mm_e12_98, mm_br_lt (by omega) (by omega) (by omega) (by omega), if_neg (by omega)]
        simp (disch := omega) only [mm_ptB, pp_pq, mm_gs, mm_gL_ne, mm_hm]
        rw [he, mm_cV_ok]
      · rw [if_neg h]
        refine ⟨h2, l2, ⟨by omega, by omega, by omega, by omega, by omega⟩, ?_⟩
        rw [mm_e12_98, mm_br_lt (by omega) (by omega) (by omega) (by omega), if_pos (by omega)]
    obtain ⟨h3, l3, hh3, e3⟩ := s3
    rw [e3]
    -- no later
    obtain ⟨h4, l4, hh4, he4⟩ := c_put (E := E) (d := d) (B := B) (c := c) (S := ((((((S.sL 43 f).sL 44 g).sL 46 (mm_u f2 w h3)).sL 47 (mm_u g2 w l3)).sL 52 (mm_u p 0 p1)).sL 53 (mm_u q 0 q1))) (a := 42) (a1 := 43) (a2 := 44) (i := w) (h := f w + p1) (l := g w + q1) hd rfl rfl (by omega) (by omega) (by omega) (by omega) (by omega) (by omega) (by omega)
    simp (disch := omega) only [pp_cm, mm_gs, mm_gL_ne] at he4
    rw [mm_e12_149]
    simp (disch := omega) only [mm_ptB, pp_pq, mm_gs, mm_gL_ne, mm_hm, mm_u_eq]
    rw [he4, mm_cV_ok]
    refine ih n (w + 1) _ _ _ _ _ _ (by omega) (by omega) (by omega) (fun i hi => ?_) ?_ ?_ ?_
    · simp only [mm_u_ne (show i ≠ w by omega)]
      exact hs i (by omega)
    · rw [show w + 1 - 1 = w by omega]
      refine pp_vr_st hf ⟨by omega, by omega, by omega, by omega, ?_⟩
      unfold bb_nb
      omega
    · rw [show w + 1 - 1 = w by omega]
      exact pp_vr_st hf2 hh3
    · rw [show w + 1 - 1 = w by omega]
      simp only [mm_u_eq]
      omega
theorem c_addS {k : Nat} {last latest b : Int} {by_ ju cc : Int → Int} (hd : 2 ≤ d) (hk : k < 12) (hl : 0 ≤ latest ∧ latest < 120) (hla : 0 ≤ last ∧ last < 120) (hby : pp_vr (S.L 43) (S.L 44) latest b by_) (hju : pp_vr (S.L 46) (S.L 47) latest b ju) (hc : pp_vr (S.L (58 + 3 * k)) (S.L (59 + 3 * k)) last 72057594037927936 cc) (hb : 0 ≤ b ∧ b + 72057594037927936 ≤ 2305843009213693952) :
    ∃ f' g' f2' g2' p' q', pp_vr f' g' latest (b + 72057594037927936) (bb_nb by_ cc last) ∧ pp_vr f2' g2' latest (b + 72057594037927936) (bb_nj by_ ju cc last) ∧ mm_ev E d 12 [.ref (mm_ad B 40), .ref (mm_ad B (57 + 3 * k)), .int (mm_i last), .int (mm_i latest)] (mm_hp B S c) = mm_oV (mm_hp B ((((((S.sL 43 f').sL 44 g').sL 46 f2').sL 47 g2').sL 52 p').sL 53 q') c) := by
  obtain ⟨e, rfl⟩ : ∃ k, d = k + 1 := ⟨d - 1, by omega⟩
  obtain ⟨F, hF, h⟩ := mm_w12 E e B S c (mm_ad B (57 + 3 * k)) (mm_i last) (mm_i latest)
  obtain ⟨h', l', hh, he⟩ := c_putP (E := E) (d := e) (B := B) (c := c) (S := S) (h := 288230376151711744) (l := 0) (by omega) (by omega) (by omega) (by omega) (by omega)
  rw [h, mm_e12_0]
  simp (disch := omega) only [mm_ptB]
  rw [he, mm_cV_ok]
  have g := l_addS (E := E) (d := e) (B := B) (S := S) (c := c) (by omega) hk hl hla hby hju hc hb (latest + 1).toNat (F + 99) 0 (S.L 43) (S.L 44) (S.L 46) (S.L 47) (mm_u (S.L 52) 0 h') (mm_u (S.L 53) 0 l') (by omega) (by omega) (by omega) (fun i _ => ⟨rfl, rfl, rfl, rfl⟩) (fun i i1 i2 => by omega) (fun i i1 i2 => by omega) (by
    have z : bb_am cc last (0 - 1) = 5316911983139663491615228241121378304 := by
      unfold bb_am
      rw [show (min (0 - 1) last + 1).toNat = 0 by omega]
      rfl
    simp only [mm_u_eq]
    omega)
  simp only [pp_sL_id] at g
  exact g
end
