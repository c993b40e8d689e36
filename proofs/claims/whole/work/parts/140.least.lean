/-! THE LEAST PRICE -/
theorem bb_sm_one2 {g h : Int → Int} {n : Nat} : (∀ i : Int, 0 ≤ i → i < n → g i = h i) → pp_sm g n = pp_sm h n := fun e => pp_sm_congr n e
/-- sums in the walk's order -/
theorem bb_sm_perm {n : Int} {wk g : Int → Int} (h1 : ∀ i : Int, 0 ≤ i → i < n → 0 ≤ wk i ∧ wk i < n) (h2 : ∀ i j : Int, 0 ≤ i → i < j → j < n → wk i ≠ wk j) (h3 : ∀ u : Int, 0 ≤ u → u < n → ∃ i : Int, 0 ≤ i ∧ i < n ∧ wk i = u) : pp_sm (fun i => g (wk i)) n.toNat = pp_sm g n.toNat := by
  have a1 : pp_sm g n.toNat = pp_sm (fun u => pp_sm (fun i => if wk i = u then g u else 0) n.toNat) n.toNat := by
    apply pp_sm_congr
    intro u u0 u1
    obtain ⟨i, i0, i1, i2⟩ := h3 u u0 (by omega)
    rw [pp_sm_one (j := i) n.toNat i0 (by omega) (fun k k0 k1 hk => if_neg (fun z => by
      by_cases q : k < i
      · exact h2 k i k0 q i1 (z.trans i2.symm)
      · exact h2 i k i0 (by omega) (by omega) (i2.trans z.symm))), if_pos i2]
  rw [a1, pp_sm_swap (fun u i => if wk i = u then g u else 0)]
  apply pp_sm_congr
  intro i i0 i1
  have r := h1 i i0 (by omega)
  rw [pp_sm_one (j := wk i) n.toNat r.1 (by omega) (fun k k0 k1 hk => if_neg (fun z => hk z.symm)), if_pos rfl]
section
variable {E : mm_E} {d B : Nat} {S : mm_S} {c : mm_N} {a : Nat}
theorem l_addLeast {k : Nat} {last : Int} {cc : Int → Int} (hd : 1 ≤ d) (hk : k < 12) (hla : 0 ≤ last ∧ last < 120) (hc : pp_vr (S.L (58 + 3 * k)) (S.L (59 + 3 * k)) last 72057594037927936 cc) (hJ : 0 ≤ S.J 40 8 ∧ S.J 40 8 ≤ 12 * 288230376151711744 ∧ 0 ≤ S.J 40 9 ∧ S.J 40 9 ≤ 12 * 72057594037927936) : ∀ (j n : Nat) (x : Int) (p q : Int → Int), 0 ≤ x → x + j = last + 1 → j + 2 < n → (0 ≤ p 0 ∧ p 0 ≤ 288230376151711744 ∧ 0 ≤ q 0 ∧ q 0 ≤ 72057594037927936 ∧ p 0 * 18446744073709551616 + q 0 = pp_mr 5316911983139663491615228241121378304 cc x.toNat) →
    ∃ p' q', (0 ≤ p' 0 ∧ p' 0 ≤ 288230376151711744 ∧ 0 ≤ q' 0 ∧ q' 0 ≤ 72057594037927936 ∧ p' 0 * 18446744073709551616 + q' 0 = pp_mr 5316911983139663491615228241121378304 cc (last + 1).toNat) ∧ mm_r18_14 E (mm_ev E d) n (mm_ad B 40) (mm_ad B (57 + 3 * k)) (mm_i last) (mm_i x) (mm_hp B ((S.sL 52 p).sL 53 q) c) = mm_oV (mm_hp B ((((S.sJ 40 8 (S.J 40 8 + p' 0)).sJ 40 9 (S.J 40 9 + q' 0)).sL 52 p').sL 53 q') c) := by
  intro j
  induction j with
  | zero =>
    intro n x p q x0 xj hn hp
    obtain ⟨n, rfl⟩ : ∃ m, n = m + 2 := ⟨n - 2, by omega⟩
    refine ⟨p, q, by rw [show last + 1 = x by omega]; exact hp, ?_⟩
    rw [mm_e18_14, mm_br_lt (by omega) (by omega) (by omega) (by omega), if_pos (by omega)]
    simp (disch := omega) only [mm_ptB, pp_pq, mm_gs, mm_gL_ne, mm_hm]
    rw [mm_e18_63]
    simp (disch := omega) only [mm_ptB, pp_pq, mm_gs, mm_gL_ne, mm_gJ_ne, mm_hm, pp_cm]
  | succ j ih =>
    intro n x p q x0 xj hn hp
    obtain ⟨n, rfl⟩ : ∃ m, n = m + 1 := ⟨n - 1, by omega⟩
    have rc := hc x x0 (by omega)
    obtain ⟨h', l', hh, he⟩ := c_lowerP (E := E) (d := d) (B := B) (c := c) (S := ((S.sL 52 p).sL 53 q)) (h := S.L (58 + 3 * k) x) (l := S.L (59 + 3 * k) x) hd (by omega) (by omega) (by omega) (by omega) (by simp (disch := omega) only [mm_gs, mm_gL_ne]; omega) (by simp (disch := omega) only [mm_gs, mm_gL_ne]; omega)
    simp (disch := omega) only [pp_cm, mm_gs, mm_gL_ne] at hh he
    have em : pp_mr 5316911983139663491615228241121378304 cc (x + 1).toNat = min (pp_mr 5316911983139663491615228241121378304 cc x.toNat) (cc x) := by
      rw [show (x + 1).toNat = x.toNat + 1 by omega]
      show min _ (cc (x.toNat : Int)) = _
      rw [show ((x.toNat : Nat) : Int) = x by omega]
    obtain ⟨p', q', r1, r2⟩ := ih n (x + 1) (mm_u p 0 h') (mm_u q 0 l') (by omega) (by omega) (by omega) (by
      simp only [mm_u_eq]
      rw [em]
      omega)
    refine ⟨p', q', r1, ?_⟩
    rw [← r2, mm_e18_14, mm_br_lt (by omega) (by omega) (by omega) (by omega), if_neg (by omega)]
    simp (disch := omega) only [mm_ptB, pp_pq, mm_gs, mm_gL_ne]
    rw [he, mm_cV_ok, mm_i_add]
theorem c_addLeast {k : Nat} {last : Int} {cc : Int → Int} (hd : 2 ≤ d) (hk : k < 12) (hla : 0 ≤ last ∧ last < 120) (hc : pp_vr (S.L (58 + 3 * k)) (S.L (59 + 3 * k)) last 72057594037927936 cc) (hJ : 0 ≤ S.J 40 8 ∧ S.J 40 8 ≤ 12 * 288230376151711744 ∧ 0 ≤ S.J 40 9 ∧ S.J 40 9 ≤ 12 * 72057594037927936) :
    ∃ p' q', (0 ≤ p' 0 ∧ p' 0 ≤ 288230376151711744 ∧ 0 ≤ q' 0 ∧ q' 0 ≤ 72057594037927936 ∧ p' 0 * 18446744073709551616 + q' 0 = pp_mr 5316911983139663491615228241121378304 cc (last + 1).toNat) ∧ mm_ev E d 18 [.ref (mm_ad B 40), .ref (mm_ad B (57 + 3 * k)), .int (mm_i last)] (mm_hp B S c) = mm_oV (mm_hp B ((((S.sJ 40 8 (S.J 40 8 + p' 0)).sJ 40 9 (S.J 40 9 + q' 0)).sL 52 p').sL 53 q') c) := by
  obtain ⟨e, rfl⟩ : ∃ k, d = k + 1 := ⟨d - 1, by omega⟩
  obtain ⟨F, hF, h⟩ := mm_w18 E e B S c (mm_ad B (57 + 3 * k)) (mm_i last)
  obtain ⟨h', l', hh, he⟩ := c_putP (E := E) (d := e) (B := B) (c := c) (S := S) (h := 288230376151711744) (l := 0) (by omega) (by omega) (by omega) (by omega) (by omega)
  rw [h, mm_e18_0]
  simp (disch := omega) only [mm_ptB]
  rw [he, mm_cV_ok]
  exact l_addLeast (E := E) (d := e) (B := B) (S := S) (c := c) (by omega) hk hla hc hJ (last + 1).toNat (F + 99) 0 (mm_u (S.L 52) 0 h') (mm_u (S.L 53) 0 l') (by omega) (by omega) (by omega) (by
    simp only [mm_u_eq]
    show _ ∧ _ ∧ _ ∧ _ ∧ _ = 5316911983139663491615228241121378304
    omega)
theorem bb_rok_cg {T : mm_S} {s p : Int} (hI : T.I = S.I) (hA : T.A = S.A) (h1 : T.L (58 + 3 * s.toNat) = S.L (58 + 3 * s.toNat)) (h2 : T.L (59 + 3 * s.toNat) = S.L (59 + 3 * s.toNat)) (h : bb_rok S a s p) : bb_rok T a s p := by
  refine bb_rok_mk hI hA ?_
  intro x x0 x1
  have r := h x x0 x1
  unfold bb_c at r ⊢
  rw [h1, h2]
  exact r
/-- what a root's part costs at least -/
def bb_rl (S : mm_S) (a : Nat) (l : Int → Int) : Prop := ∀ r : Int, 0 ≤ r → r < (S.I a 10) → 0 ≤ l r ∧ pp_mi 5316911983139663491615228241121378304 (fun v => ∃ t, pp_FE (S.I a 10) 5316911983139663491615228241121378304 (pp_Wf (S.I a 10) (S.A (a + 3))) (S.A (a + 10)) (fun u => S.A (a + 1) (u * 7 + 2)) (fun u => S.A (a + 1) (u * 7 + 0)) (bb_ow (S.A (a + 1))) r (-1) t ∧ v = pp_SU (S.I a 10) (pp_Wf (S.I a 10) (S.A (a + 3))) (fun u => S.A (a + 1) (u * 7 + 2)) (fun u => S.A (a + 1) (u * 7 + 0)) (bb_ow (S.A (a + 1))) (bb_pr S a) r (-1) t) (l r)
theorem bb_rl_ex (hT : pp_NT S a) : ∃ l, bb_rl S a l := by
  have ex : ∀ r : Int, ∃ m, 0 ≤ r → r < (S.I a 10) → 0 ≤ m ∧ pp_mi 5316911983139663491615228241121378304 (fun v => ∃ t, pp_FE (S.I a 10) 5316911983139663491615228241121378304 (pp_Wf (S.I a 10) (S.A (a + 3))) (S.A (a + 10)) (fun u => S.A (a + 1) (u * 7 + 2)) (fun u => S.A (a + 1) (u * 7 + 0)) (bb_ow (S.A (a + 1))) r (-1) t ∧ v = pp_SU (S.I a 10) (pp_Wf (S.I a 10) (S.A (a + 3))) (fun u => S.A (a + 1) (u * 7 + 2)) (fun u => S.A (a + 1) (u * 7 + 0)) (bb_ow (S.A (a + 1))) (bb_pr S a) r (-1) t) m := by
    intro r
    by_cases z : 0 ≤ r ∧ r < (S.I a 10)
    · have nn : ∀ y, (∃ t, pp_FE (S.I a 10) 5316911983139663491615228241121378304 (pp_Wf (S.I a 10) (S.A (a + 3))) (S.A (a + 10)) (fun u => S.A (a + 1) (u * 7 + 2)) (fun u => S.A (a + 1) (u * 7 + 0)) (bb_ow (S.A (a + 1))) r (-1) t ∧ y = pp_SU (S.I a 10) (pp_Wf (S.I a 10) (S.A (a + 3))) (fun u => S.A (a + 1) (u * 7 + 2)) (fun u => S.A (a + 1) (u * 7 + 0)) (bb_ow (S.A (a + 1))) (bb_pr S a) r (-1) t) → 0 ≤ y := by
        rintro y ⟨t, t1, rfl⟩
        exact bb_SU_nn hT z.1 z.2 t1
      obtain ⟨m, hm⟩ := bb_mi_has (F := 5316911983139663491615228241121378304) (by omega) nn
      exact ⟨m, fun _ _ => ⟨pp_mi_nn hm (by omega) nn, hm⟩⟩
    · exact ⟨0, fun z1 z2 => absurd ⟨z1, z2⟩ z⟩
  obtain ⟨l, hl⟩ := Classical.axiomOfChoice ex
  exact ⟨l, hl⟩
theorem bb_W1 (s : Int) : (pp_Wf (S.I a 10) (S.A (a + 3))) (-1) s = false := by
  cases q : (pp_Wf (S.I a 10) (S.A (a + 3))) (-1) s with
  | false => rfl
  | true => have := pp_Wf_in _ _ _ _ q; omega
/-- the row of a root gives it -/
theorem bb_root {T : mm_S} {s : Int} (hT : pp_NT S a) (hI : T.I = S.I) (hA : T.A = S.A) (h1 : 0 ≤ s) (h2 : s < (S.I a 10)) (h : bb_rok T a s (-1)) : pp_vr (T.L (58 + 3 * s.toNat)) (T.L (59 + 3 * s.toNat)) ((S.A (a + 10)) s) 72057594037927936 (bb_c T s) ∧ pp_mi 5316911983139663491615228241121378304 (fun v => ∃ t, pp_FE (S.I a 10) 5316911983139663491615228241121378304 (pp_Wf (S.I a 10) (S.A (a + 3))) (S.A (a + 10)) (fun u => S.A (a + 1) (u * 7 + 2)) (fun u => S.A (a + 1) (u * 7 + 0)) (bb_ow (S.A (a + 1))) s (-1) t ∧ v = pp_SU (S.I a 10) (pp_Wf (S.I a 10) (S.A (a + 3))) (fun u => S.A (a + 1) (u * 7 + 2)) (fun u => S.A (a + 1) (u * 7 + 0)) (bb_ow (S.A (a + 1))) (bb_pr S a) s (-1) t) (pp_mr 5316911983139663491615228241121378304 (bb_c T s) ((S.A (a + 10)) s + 1).toNat) := by
  have la := bb_lat hT h1 h2
  have e : bb_pr T a = bb_pr S a := by
    funext u z
    unfold bb_pr
    rw [hI, hA]
  have w := bb_W1 (S := S) (a := a) s
  have r : ∀ x : Int, 0 ≤ x → x ≤ (S.A (a + 10)) s → 0 ≤ T.L (58 + 3 * s.toNat) x ∧ T.L (58 + 3 * s.toNat) x ≤ 288230376151711744 ∧ 0 ≤ T.L (59 + 3 * s.toNat) x ∧ T.L (59 + 3 * s.toNat) x ≤ 72057594037927936 ∧ pp_mi 5316911983139663491615228241121378304 (pp_CO (S.I a 10) 5316911983139663491615228241121378304 (pp_Wf (S.I a 10) (S.A (a + 3))) (S.A (a + 10)) (fun u => S.A (a + 1) (u * 7 + 2)) (fun u => S.A (a + 1) (u * 7 + 0)) (bb_ow (S.A (a + 1))) (bb_pr S a) s (-1) x) (bb_c T s x) := by
    intro x x0 x1
    unfold bb_rok at h
    rw [hI, hA, e] at h
    have z := h x x0 (by rw [if_neg (by rw [w]; exact Bool.false_ne_true)]; exact x1)
    exact ⟨z.1, z.2.1, z.2.2.1, z.2.2.2.1, z.2.2.2.2.2 w⟩
  refine ⟨fun x x0 x1 => ?_, pp_mi_to (pp_mr_mi 5316911983139663491615228241121378304 (bb_c T s) ((S.A (a + 10)) s + 1).toNat) ?_ ?_⟩
  · have z := r x x0 x1
    exact ⟨z.1, z.2.1, z.2.2.1, z.2.2.2.1, rfl⟩
  · rintro _ ⟨t, t1, rfl⟩
    have f := t1 s (pp_sd_rf _ s (-1))
    exact ⟨_, ⟨t s, f.1, by have := f.2.1; omega, rfl⟩, (r (t s) f.1 f.2.1).2.2.2.2.2.1 _ ⟨t, t1, rfl, rfl⟩⟩
  · rintro hlt ⟨i, i0, i1, e⟩
    rcases (r i i0 (by omega)).2.2.2.2.2.2 with z | ⟨t, t1, _, t3⟩
    · omega
    · exact ⟨t, t1, e.trans t3⟩
/-- how far the search is: stages from i + 1 on are weighed -/
def bb_LI (S T : mm_S) (a : Nat) (wk iw l : Int → Int) (i : Int) : Prop := T.I = S.I ∧ T.A = S.A ∧ (∀ x, (x < 43 ∨ 92 < x) → T.L x = S.L x) ∧ (∀ x k, x ≠ 40 → T.J x k = S.J x k) ∧ (∀ m : Int, i < m → m < (S.I a 10) → bb_rok T a (wk m) (iw (wk m))) ∧ (0 ≤ T.J 40 8 ∧ T.J 40 8 ≤ ((S.I a 10) - 1 - i) * 288230376151711744 ∧ 0 ≤ T.J 40 9 ∧ T.J 40 9 ≤ ((S.I a 10) - 1 - i) * 72057594037927936) ∧ T.J 40 8 * 18446744073709551616 + T.J 40 9 = pp_sm (fun m => if i < m then (if iw (wk m) = -1 then l (wk m) else 0) else 0) ((S.I a 10)).toNat
theorem bb_LI_sum {n : Int} {h : Int → Int} {i : Int} (i0 : 0 ≤ i) (i1 : i < n) : pp_sm (fun m => if i - 1 < m then h m else 0) n.toNat = pp_sm (fun m => if i < m then h m else 0) n.toNat + h i := by
  refine pp_sm_up (j := i) n.toNat i0 (by omega) (fun m _ _ hm => ?_) ?_
  · show (if i - 1 < m then h m else 0) = if i < m then h m else 0
    by_cases q : i < m
    · rw [if_pos q, if_pos (by omega)]
    · rw [if_neg q, if_neg (by omega)]
  · show (if i - 1 < i then h i else 0) = (if i < i then h i else 0) + h i
    rw [if_pos (by omega), if_neg (by omega)]
    omega
theorem l_least {sn : Int} {wk iw l : Int → Int} (hd : 4 ≤ d) (ha : a = 3 ∨ a = 14 ∨ a = 25) (hT : pp_NT S a) (hB : bb_BI (S.I a 10) (pp_Wf (S.I a 10) (S.A (a + 3))) (S.I a 10) (S.I a 10) sn wk iw) (h55 : S.A 55 = wk) (h56 : S.A 56 = iw) (hl : bb_rl S a l) : ∀ (j n : Nat) (i : Int) (T : mm_S) (o3 : Option Value), i + 1 = j → i < (S.I a 10) → 2 * j < n → bb_LI S T a wk iw l i →
    ∃ (m : Nat) (V : mm_S) (o3' : Option Value), n ≤ m + 2 * j ∧ bb_LI S V a wk iw l (-1) ∧ mm_r5_22 E (mm_ev E d) n (mm_ad B 40) (mm_ad B a) (mm_i i) o3 (mm_hp B T c) = mm_r5_22 E (mm_ev E d) m (mm_ad B 40) (mm_ad B a) (mm_i (-1)) o3' (mm_hp B V c) := by
  have hN := hT.1.1
  obtain ⟨b1, b2, b3, b4, b5, b6, b7, b8⟩ := hB
  intro j
  induction j with
  | zero =>
    intro n i T o3 ij i1 hn h
    exact ⟨n, T, o3, by omega, by rw [show i = -1 by omega] at h; exact h, by rw [show i = -1 by omega]⟩
  | succ j ih =>
    intro n i T o3 ij i1 hn h
    obtain ⟨n, rfl⟩ : ∃ m, n = m + 2 := ⟨n - 2, by omega⟩
    obtain ⟨eI, eA, eL, eJ, rows, rJ, sum⟩ := h
    have i0 : 0 ≤ i := by omega
    have rs := b3 i i0 i1
    have hTT : pp_NT T a := bb_NT_cg eI eA hT
    have eW : pp_Wf (T.I a 10) (T.A (a + 3)) = (pp_Wf (S.I a 10) (S.A (a + 3))) := by rw [eI, eA]
    have eN : T.I a 10 = (S.I a 10) := by rw [eI]
    have t55 : T.A 55 i = wk i := by rw [eA, h55]
    have t56 : T.A 56 (wk i) = iw (wk i) := by rw [eA, h56]
    have inr : iw (wk i) = -1 ∨ (0 ≤ iw (wk i) ∧ iw (wk i) < (S.I a 10)) := by
      rcases b6 i i0 i1 with z | ⟨q, q0, q1, _, q3, _⟩
      · exact Or.inl z
      · rw [← q3]; exact Or.inr (b3 q q0 (by omega))
    obtain ⟨V, ⟨vI, vJ, vA, vL, vL2, vr⟩, ve⟩ := c_weigh (E := E) (d := d) (B := B) (c := c) (S := T) (a := a) (s := wk i) (inw := iw (wk i)) hd ha hTT rs.1 (by rw [eN]; exact rs.2) t56 (by rw [eN]; exact inr) (fun k hk hki => by
      rw [eW] at hk
      obtain ⟨z, q, q1, q2, q3⟩ := b7 i i0 i1 k hk.symm hki
      have g := rows q q1 q2
      rw [q3, z] at g
      exact g)
    have vLL : ∀ x, (x < 43 ∨ 92 < x) → V.L x = T.L x := fun x hx => by
      rcases hx with h | h
      · exact vL2 x h
      · exact vL x (by omega) (by omega) (by omega)
    have vrows : ∀ m : Int, i - 1 < m → m < (S.I a 10) → bb_rok V a (wk m) (iw (wk m)) := by
      intro m m0 m1
      by_cases e : m = i
      · rw [e]; exact vr
      · have rm := b3 m (by omega) m1
        have ne : wk m ≠ wk i := fun z => b4 i m i0 (by omega) m1 z.symm
        exact bb_rok_cg vI vA (vL _ (by omega) (by omega) (by omega)) (vL _ (by omega) (by omega) (by omega)) (rows m (by omega) m1)
    have e1 : mm_r5_22 E (mm_ev E d) (n + 2) (mm_ad B 40) (mm_ad B a) (mm_i i) o3 (mm_hp B T c) = (if iw (wk i) = -1 then mm_r5_49 E (mm_ev E d) (n + 1) (mm_ad B 40) (mm_ad B a) (mm_i i) (mm_i (wk i)) (mm_hp B V c) else mm_r5_22 E (mm_ev E d) (n + 1) (mm_ad B 40) (mm_ad B a) (mm_i (i - 1)) (some (.int (mm_i (wk i)))) (mm_hp B V c)) := by
      have v56 : V.A 56 (wk i) = iw (wk i) := by rw [vA]; exact t56
      rw [mm_e5_22, mm_br_lt (by omega) (by omega) (by omega) (by omega), if_neg (by omega)]
      simp (disch := omega) only [mm_ptB, t55]
      rw [ve, mm_cV_ok]
      simp (disch := omega) only [mm_ptB, v56, mm_hm]
      rw [mm_br_eq (by omega) (by omega) (by omega) (by omega), show i + -1 = i - 1 by omega]
    have ls := bb_LI_sum (n := (S.I a 10)) (h := fun m => if iw (wk m) = -1 then l (wk m) else 0) i0 i1
    by_cases q : iw (wk i) = -1
    · rw [if_pos q] at e1
      rw [q] at vr
      obtain ⟨pv, mi⟩ := bb_root hT (vI.trans eI) (vA.trans eA) rs.1 rs.2 vr
      have la := bb_lat hT rs.1 rs.2
      have el := pp_mi_one mi (hl (wk i) rs.1 rs.2).2
      have j8 : V.J 40 8 = T.J 40 8 := by rw [vJ]
      have j9 : V.J 40 9 = T.J 40 9 := by rw [vJ]
      have bn : ((S.I a 10) - 1 - i) * 288230376151711744 ≤ 12 * 288230376151711744 ∧ ((S.I a 10) - 1 - i) * 72057594037927936 ≤ 12 * 72057594037927936 := by omega
      obtain ⟨p', q', hh, he⟩ := c_addLeast (E := E) (d := d) (B := B) (c := c) (S := V) (k := (wk i).toNat) (last := (S.A (a + 10)) (wk i)) (cc := bb_c V (wk i)) (by omega) (by omega) (by omega) pv (by omega)
      have e2 : mm_r5_49 E (mm_ev E d) (n + 1) (mm_ad B 40) (mm_ad B a) (mm_i i) (mm_i (wk i)) (mm_hp B V c) = mm_r5_22 E (mm_ev E d) n (mm_ad B 40) (mm_ad B a) (mm_i (i - 1)) (some (.int (mm_i (wk i)))) (mm_hp B ((((V.sJ 40 8 (V.J 40 8 + p' 0)).sJ 40 9 (V.J 40 9 + q' 0)).sL 52 p').sL 53 q') c) := by
        have v10 : V.A (a + 10) (wk i) = (S.A (a + 10)) (wk i) := by rw [vA, eA]
        rw [mm_e5_49]
        simp (disch := omega) only [mm_ptB, mm_ptRR, mm_ptN, v10]
        rw [he, mm_cV_ok, mm_i_add, show i + -1 = i - 1 by omega]
      obtain ⟨m, V', o3', r1, r2, r3⟩ := ih n (i - 1) ((((V.sJ 40 8 (V.J 40 8 + p' 0)).sJ 40 9 (V.J 40 9 + q' 0)).sL 52 p').sL 53 q') (some (.int (mm_i (wk i)))) (by omega) (by omega) (by omega) (by
        refine ⟨vI.trans eI, vA.trans eA, fun x x0 => ?_, fun x y hx => ?_, fun m m0 m1 => ?_, ?_, ?_⟩
        · simp (disch := omega) only [mm_gs, mm_gL_ne]
          rw [vLL x x0]; exact eL x x0
        · simp (disch := omega) only [mm_gs, mm_gJ_ne]
          rw [vJ]; exact eJ x y hx
        · have rm := b3 m (by omega) m1
          exact bb_rok_cg (S := V) rfl rfl (by simp (disch := omega) only [mm_gs, mm_gL_ne]) (by simp (disch := omega) only [mm_gs, mm_gL_ne]) (vrows m m0 m1)
        · simp (disch := omega) only [mm_gs, mm_gJ_ne]
          rw [j8, j9]
          omega
        · simp (disch := omega) only [mm_gs, mm_gJ_ne]
          rw [ls, j8, j9]
          show _ = _ + (if iw (wk i) = -1 then l (wk i) else 0)
          rw [if_pos q]
          omega)
      exact ⟨m, V', o3', by omega, r2, by rw [e1, e2]; exact r3⟩
    · rw [if_neg q] at e1
      obtain ⟨m, V', o3', r1, r2, r3⟩ := ih (n + 1) (i - 1) V (some (.int (mm_i (wk i)))) (by omega) (by omega) (by omega) (by
        refine ⟨vI.trans eI, vA.trans eA, fun x x0 => ?_, fun x y hx => ?_, vrows, ?_, ?_⟩
        · rw [vLL x x0]; exact eL x x0
        · rw [vJ]; exact eJ x y hx
        · rw [vJ]; omega
        · rw [ls, vJ]
          show _ = _ + (if iw (wk i) = -1 then l (wk i) else 0)
          rw [if_neg q]
          omega)
      exact ⟨m, V', o3', by omega, r2, by rw [e1]; exact r3⟩
end
