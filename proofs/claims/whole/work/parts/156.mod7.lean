/-! THE PRICE OF THE BEST in the model -/
/-- widths and longest ways of a row -/
def bb_RS (f wd L : Int → Int) : Prop := pp_FQ (f 0) (fun s => f (3 + 7 * s + 4)) (pp_Wr f) wd ∧ (∀ s : Int, 0 ≤ s → s < (f 0) → L s = pp_gx (f (3 + 7 * s + 2)) (fun k => (pp_Wr f) k s) L ((f 0)).toNat + f (3 + 7 * s + 0)) ∧ (∀ s : Int, 0 ≤ s → s < (f 0) → (0 ≤ L s ∧ L s ≤ 117) ∧ 0 ≤ wd s ∧ wd s ≤ 119988) ∧ ∃ ps, pp_RB (pp_Wr f) ps
theorem bb_RS_of {S : mm_S} {a : Nat} {f : Int → Int} (hR : pp_RO f) (hE : pp_EQ S a f) (hT : pp_NT S a) : bb_RS f (S.A (a + 9)) (S.A (a + 10)) := by
  have eW := pp_EQ_W hR hE
  have eN := hE.1
  have told : ∀ s w : Int, 0 ≤ s → s < f 0 → 0 ≤ w → w < 7 → S.A (a + 1) (s * 7 + w) = f (3 + 7 * s + w) := hE.2.2.2.1
  obtain ⟨ps, hB⟩ := pp_NT_RB hT
  have st := hT.2.2
  rw [eW] at st hB
  rw [eN] at st
  refine ⟨fun s s0 s1 => ?_, fun s s0 s1 => ?_, fun s s0 s1 => ⟨?_, ?_⟩, ps, hB⟩
  · have g := st.2.2.1 s s0 s1
    dsimp only at g ⊢
    rw [told s 4 s0 s1 (by omega) (by omega)] at g
    exact g
  · have g := st.2.2.2.1 s s0 s1
    rw [told s 2 s0 s1 (by omega) (by omega), told s 0 s0 s1 (by omega) (by omega)] at g
    exact g
  · exact ⟨(st.2.2.2.2.2 s s0 (by have := hR.1; omega)).1, st.2.2.2.2.1 s s0 s1⟩
  · exact pp_NT_wd hT s0 (by rw [eN]; exact s1)
/-- a state that tells a row -/
def bb_s0 (f : Int → Int) : mm_S := ((fun x k => if x = 3 ∧ k = 10 then f 0 else if x = 3 ∧ k = 11 then f 1 else 0, fun _ _ => 0), (fun x i => if x = 4 then (if i < 7 * f 0 then f (3 + i) else 0) else if x = 5 then (if i < 6 * f 0 then f (87 + i) else 0) else if x = 6 then mm_sup f i else if x = 7 then mm_cus f i else 0, fun _ _ => 0))
theorem bb_s0_EQ {f : Int → Int} (hR : pp_RO f) : pp_EQ (bb_s0 f) 3 f := by
  have e4 : (bb_s0 f).A (3 + 1) = fun i => if i < 7 * f 0 then f (3 + i) else 0 := rfl
  have e5 : (bb_s0 f).A (3 + 2) = fun i => if i < 6 * f 0 then f (87 + i) else 0 := rfl
  refine ⟨rfl, rfl, fun s _ _ => ⟨rfl, rfl⟩, fun s w s0 s1 w0 w1 => ?_, fun s s0 s1 => ?_, fun s k s0 s1 k0 k1 => ?_, fun s k s0 s1 k0 k1 => ?_⟩
  · rw [e4]
    show (if s * 7 + w < 7 * f 0 then f (3 + (s * 7 + w)) else 0) = _
    rw [if_pos (by omega), show 3 + (s * 7 + w) = 3 + 7 * s + w by omega]
  · rw [e4]
    unfold pp_tR
    by_cases q : s < f 0
    · have r := bb_ro hR s0 q
      simp only [if_pos (show s * 7 + 0 < 7 * f 0 by omega), if_pos (show s * 7 + 1 < 7 * f 0 by omega), if_pos (show s * 7 + 2 < 7 * f 0 by omega), if_pos (show s * 7 + 3 < 7 * f 0 by omega), if_pos (show s * 7 + 4 < 7 * f 0 by omega), if_pos (show s * 7 + 5 < 7 * f 0 by omega), if_pos (show s * 7 + 6 < 7 * f 0 by omega)]
      have e : ∀ w : Int, 3 + (s * 7 + w) = 3 + 7 * s + w := fun w => by omega
      simp only [e]
      exact r
    · simp only [if_neg (show ¬ s * 7 + 0 < 7 * f 0 by omega), if_neg (show ¬ s * 7 + 1 < 7 * f 0 by omega), if_neg (show ¬ s * 7 + 2 < 7 * f 0 by omega), if_neg (show ¬ s * 7 + 3 < 7 * f 0 by omega), if_neg (show ¬ s * 7 + 4 < 7 * f 0 by omega), if_neg (show ¬ s * 7 + 5 < 7 * f 0 by omega), if_neg (show ¬ s * 7 + 6 < 7 * f 0 by omega)]
      omega
  · rw [e5]
    show (if s * 6 + k < 6 * f 0 then f (87 + (s * 6 + k)) else 0) = _
    rw [if_pos (by omega), show 87 + (s * 6 + k) = 87 + 6 * s + k by omega]
  · rw [e5]
    show (if s * 6 + k < 6 * f 0 then f (87 + (s * 6 + k)) else 0) = 0
    rw [if_neg (by omega)]
theorem bb_RS_ex {f : Int → Int} (hR : pp_RO f) : ∃ wd L, bb_RS f wd L := by
  have hE := bb_s0_EQ hR
  obtain ⟨ord, fl, wd, L, st, _⟩ := c_settle (E := ((0, 0, fun _ => 0), 0, fun _ => 0, fun _ => none)) (d := 3) (B := 0) (c := (none, (0, 0))) (S := bb_s0 f) (a := 3) (by omega) (by omega) (pp_EQ_NK hR hE) (pp_EQ_GK hR hE) (fun s _ _ => by show (0 : Int) ≤ 0 ∧ (0 : Int) ≤ 200; omega)
  have hE2 : pp_EQ (((((bb_s0 f).sA 10 ord).sA 11 fl).sA 12 wd).sA 13 L) 3 f := by
    unfold pp_EQ at hE ⊢
    simp (disch := omega) only [mm_gs, mm_gA_ne]
    exact hE
  have hT2 : pp_NT (((((bb_s0 f).sA 10 ord).sA 11 fl).sA 12 wd).sA 13 L) 3 := by
    refine ⟨pp_EQ_NK hR hE2, pp_EQ_GK hR hE2, ?_⟩
    simp (disch := omega) only [mm_gs, mm_gA_ne]
    exact st
  exact ⟨_, _, bb_RS_of hR hE2 hT2⟩
theorem bb_RV {f : Int → Int} (hR : pp_RO f) : pp_RV f (f 0) (pp_Wr f) := by
  refine ⟨rfl, hR.1.1, hR.1.2, pp_RO_PR hR, pp_Wr_in f, fun i j i0 i1 j0 j1 => ?_⟩
  have hP := pp_RO_PR hR
  have out : ∀ i j : Int, ¬ (i < f 0 ∧ j < f 0) → (pp_Wr f) i j = false := fun i j q => by
    cases z : (pp_Wr f) i j with
    | false => rfl
    | true => have := pp_Wr_in f i j z; omega
  constructor
  · by_cases q : j < f 0
    · exact (pp_RO_bt hR i0 j0 q).1
    · rw [out i j (by omega)]
      cases z : mm_bt (mm_sup f j) i with
      | false => rfl
      | true =>
        obtain ⟨l, l0, l1, l2, l3⟩ := (mm_sup_bt hP i0).mp z
        have := hR.2.2.2.1 l l0 l1
        omega
  · by_cases q : i < f 0
    · exact (pp_RO_bt hR j0 i0 q).2
    · rw [out i j (by omega)]
      cases z : mm_bt (mm_cus f i) j with
      | false => rfl
      | true =>
        obtain ⟨l, l0, l1, l2, l3⟩ := (mm_cus_bt hP j0).mp z
        have := hR.2.2.2.1 l l0 l1
        omega
section
variable {E : mm_E} {d B : Nat} {S : mm_S} {c : mm_N} {f wd L : Int → Int} {H : Int}
theorem l_hor (hd : 15 ≤ d) (eF : S.A 102 = f) (hR : pp_RO f) (hS : bb_RS f wd L) {o2 o3 o4 : Option Value} : ∀ (j k n : Nat), (f 0).toNat = k + j → j < n → ∃ n', n ≤ n' + j + 1 ∧ mm_r193_7 E (mm_ev E d) n (mm_ad B 101) (mm_i (k : Int)) o2 o3 o4 (mm_hp B (S.sI 101 15 (pp_gx 0 (fun _ => true) L k)) c) = mm_r193_39 E (mm_ev E d) n' (mm_ad B 101) (mm_i 0) o2 o3 o4 (mm_hp B (S.sI 101 15 (pp_gx 0 (fun _ => true) L (f 0).toNat)) c) := by
  have n12 := hR.1
  have eN : S.A 102 0 = f 0 := by rw [eF]
  obtain ⟨h1, h2, h3, ps, hB⟩ := hS
  intro j
  induction j with
  | zero =>
    intro k n kj hn
    obtain ⟨n, rfl⟩ : ∃ q, n = q + 1 := ⟨n - 1, by omega⟩
    refine ⟨n, by omega, ?_⟩
    rw [mm_e193_7, c_many (by omega), mm_cI_ok]
    simp (disch := omega) only [mm_gs, eN, mm_br_le]
    rw [if_pos (by omega), show (f 0).toNat = k by omega]
  | succ j ih =>
    intro k n kj hn
    obtain ⟨n, rfl⟩ : ∃ q, n = q + 1 := ⟨n - 1, by omega⟩
    have lk := (h3 k (by omega) (by omega)).1
    have gk : 0 ≤ pp_gx 0 (fun _ => true) L k ∧ pp_gx 0 (fun _ => true) L k ≤ 117 := ⟨pp_gx_ge _ _ _ _, pp_gx_le k (by omega) (fun i i0 i1 _ => (h3 i i0 (by omega)).1.2)⟩
    obtain ⟨n', a1, a2⟩ := ih (k + 1) n (by omega) (by omega)
    refine ⟨n', by omega, ?_⟩
    rw [← a2, mm_e193_7, c_many (by omega), mm_cI_ok]
    simp (disch := omega) only [mm_gs, eN, mm_br_le]
    rw [if_neg (by omega)]
    simp (disch := omega) only [mm_ptM, mm_gs]
    have eS : (S.sI 101 15 (pp_gx 0 (fun _ => true) L k)).A 102 = f := eF
    rw [c_longestOf (S := S.sI 101 15 (pp_gx 0 (fun _ => true) L k)) (n := f 0) (W := pp_Wr f) (ps := ps) (L := L) (by rw [eS]; exact bb_RV hR) hB (by rw [eS]; exact fun s s0 s1 => (bb_ro hR s0 s1).2.2.1) (by rw [eS]; exact h2) (fun s s0 s1 => ⟨(h3 s s0 s1).1.1, by have := (h3 s s0 s1).1.2; omega⟩) hd (by omega) (by omega), mm_cI_ok, mm_i_mx (by omega) (by omega) (by omega) (by omega)]
    simp (disch := omega) only [mm_ptM, mm_gs, mm_hm]
    rw [Int.natCast_add, Int.natCast_one]
    rfl
theorem l_roots1 {s : Int} (hd : 1 ≤ d) (hR : pp_RO f) (s0 : 0 ≤ s) (s1 : s < f 0) (hw : 0 ≤ wd s ∧ wd s ≤ 119988) (hH : S.I 101 15 = H) (hH2 : 0 ≤ H ∧ H ≤ 117) : ∀ (j n : Nat) (x : Int) (g : Int → Int), 0 ≤ x → x + j = H + 10 → j < n → (∀ i : Int, 0 ≤ i → i < x → g (240 * s + i) = pp_rt (pp_qd (f 1) (wd s) i)) → ∃ (n' : Nat) (g' : Int → Int) (o2 o3 o4 : Option Value), n ≤ n' + j + 1 ∧ (∀ i : Int, 0 ≤ i → i ≤ H + 9 → g' (240 * s + i) = pp_rt (pp_qd (f 1) (wd s) i)) ∧ (∀ i : Int, ¬ (240 * s ≤ i ∧ i < 240 * s + 240) → g' i = g i) ∧ mm_r193_74 E (mm_ev E d) n (mm_ad B 101) (mm_i s) (mm_j (f 1 * f 1 * wd s)) (mm_i x) (mm_hp B (S.sA 114 g) c) = mm_r193_39 E (mm_ev E d) n' (mm_ad B 101) (mm_i (s + 1)) o2 o3 o4 (mm_hp B (S.sA 114 g') c) := by
  have n12 := hR.1
  have zz := hR.2.1
  intro j
  induction j with
  | zero =>
    intro n x g x0 xj hn hg
    obtain ⟨n, rfl⟩ : ∃ q, n = q + 1 := ⟨n - 1, by omega⟩
    refine ⟨n, g, some (.long (mm_j (f 1 * f 1 * wd s))), none, some (.int (mm_i x)), by omega, fun i i0 i1 => hg i i0 (by omega), fun _ _ => rfl, ?_⟩
    rw [mm_e193_74]
    simp (disch := omega) only [mm_ptM, mm_gs, hH, mm_hm, mm_br_lt]
    rw [if_pos (by omega)]
  | succ j ih =>
    intro n x g x0 xj hn hg
    obtain ⟨n, rfl⟩ : ∃ q, n = q + 1 := ⟨n - 1, by omega⟩
    have b := pp_qd_b (n := x) zz.1 zz.2 hw.1 (by omega) x0 (by omega)
    obtain ⟨n', g', o2, o3, o4, a1, a2, a3, a4⟩ := ih n (x + 1) (mm_u g (240 * s + x) (pp_rt (pp_qd (f 1) (wd s) x))) (by omega) (by omega) (by omega) (fun i i0 i1 => by
      by_cases e : i = x
      · rw [e, mm_u_eq]
      · rw [mm_u_ne (by omega)]; exact hg i i0 (by omega))
    refine ⟨n', g', o2, o3, o4, by omega, a2, fun i hi => by rw [a3 i hi, mm_u_ne (by omega)], ?_⟩
    rw [← a4, mm_e193_74]
    simp (disch := omega) only [mm_ptM, mm_gs, hH, mm_hm, mm_br_lt]
    rw [if_neg (by omega), mm_i2l (by omega) (by omega), mm_j_mul]
    show mm_cI [] (mm_ev E d 164 [.long (mm_j (pp_qd (f 1) (wd s) x))] _) _ = _
    rw [c_rootOf hd b.1 b.2, mm_cI_ok]
    simp (disch := omega) only [mm_ptM, mm_gs]
theorem l_roots2 (hd : 15 ≤ d) (eF : S.A 102 = f) (hR : pp_RO f) (hS : bb_RS f wd L) (hH : S.I 101 15 = H) (hH2 : 0 ≤ H ∧ H ≤ 117) : ∀ (j n : Nat) (s : Int) (g : Int → Int) (o2 o3 o4 : Option Value), 0 ≤ s → s + j = f 0 → 140 * j < n → (∀ u i : Int, 0 ≤ u → u < s → 0 ≤ i → i ≤ H + 9 → g (240 * u + i) = pp_rt (pp_qd (f 1) (wd u) i)) → ∃ g' : Int → Int, (∀ u i : Int, 0 ≤ u → u < f 0 → 0 ≤ i → i ≤ H + 9 → g' (240 * u + i) = pp_rt (pp_qd (f 1) (wd u) i)) ∧ mm_r193_39 E (mm_ev E d) n (mm_ad B 101) (mm_i s) o2 o3 o4 (mm_hp B (S.sA 114 g) c) = mm_oV (mm_hp B (S.sA 114 g') c) := by
  have n12 := hR.1
  have zz := hR.2.1
  have eN : S.A 102 0 = f 0 := by rw [eF]
  have eZ : S.A 102 1 = f 1 := by rw [eF]
  obtain ⟨h1, h2, h3, ps, hB⟩ := hS
  intro j
  induction j with
  | zero =>
    intro n s g o2 o3 o4 s0 sj hn hg
    obtain ⟨n, rfl⟩ : ∃ q, n = q + 1 := ⟨n - 1, by omega⟩
    refine ⟨g, fun u i u0 u1 => hg u i u0 (by omega), ?_⟩
    rw [mm_e193_39, c_many (by omega), mm_cI_ok]
    simp (disch := omega) only [mm_gs, mm_gA_ne, eN, mm_br_le]
    rw [if_pos (by omega)]
  | succ j ih =>
    intro n s g o2 o3 o4 s0 sj hn hg
    obtain ⟨n, rfl⟩ : ∃ q, n = q + 140 := ⟨n - 140, by omega⟩
    have w := (h3 s s0 (by omega)).2
    have eS : (S.sA 114 g).A 102 = f := by rw [mm_gA_ne (by omega)]; exact eF
    obtain ⟨n', g', p2, p3, p4, a1, a2, a3, a4⟩ := l_roots1 (E := E) (d := d) (B := B) (S := S) (c := c) (f := f) (wd := wd) (H := H) (s := s) (by omega) hR s0 (by omega) w hH hH2 (H + 10).toNat (n + 139) 0 g (by omega) (by omega) (by omega) (fun i i0 i1 => by omega)
    obtain ⟨g2, b1, b2⟩ := ih n' (s + 1) g' p2 p3 p4 (by omega) (by omega) (by omega) (fun u i u0 u1 i0 i1 => by
      by_cases e : u = s
      · rw [e]; exact a2 i i0 i1
      · rw [a3 _ (by omega)]; exact hg u i u0 (by omega) i0 i1)
    refine ⟨g2, b1, ?_⟩
    rw [← b2, ← a4, mm_e193_39, c_many (by omega), mm_cI_ok]
    simp (disch := omega) only [mm_gs, mm_gA_ne, eN, mm_br_le]
    rw [if_neg (by omega)]
    simp (disch := omega) only [mm_ptM, mm_gs, mm_gA_ne, eZ]
    rw [c_flowOf (S := S.sA 114 g) (n := f 0) (W := pp_Wr f) (ps := ps) (G := wd) (w := 4) (by rw [eS]; exact bb_RV hR) hB (by omega) (by omega) (by rw [eS]; exact h1) hd s0 (by omega), mm_cI_ok, mm_i2l (by omega) (by omega), mm_i2l (by omega) (by omega), mm_j_mul, mm_j_mul]
theorem m_layRoots (hd : 16 ≤ d) (eF : S.A 102 = f) (hR : pp_RO f) (hS : bb_RS f wd L) : ∃ (H : Int) (g : Int → Int), bb_MC ((S.sI 101 15 H).sA 114 g) f wd H ∧ (∀ u : Int, 0 ≤ u → u < f 0 → L u ≤ H) ∧ mm_ev E d 193 [.ref (mm_ad B 101)] (mm_hp B S c) = mm_oV (mm_hp B ((S.sI 101 15 H).sA 114 g) c) := by
  have n12 := hR.1
  have h3 := hS.2.2.1
  obtain ⟨e, rfl⟩ : ∃ q, d = q + 1 := ⟨d - 1, by omega⟩
  obtain ⟨F, hF, h⟩ := mm_w193 E e B S c
  obtain ⟨n', a1, a2⟩ := l_hor (E := E) (d := e) (B := B) (S := S) (c := c) (f := f) (wd := wd) (L := L) (o2 := none) (o3 := none) (o4 := none) (by omega) eF hR hS (f 0).toNat 0 (F + 99) (by omega) (by omega)
  have hb : 0 ≤ pp_gx 0 (fun _ => true) L (f 0).toNat ∧ pp_gx 0 (fun _ => true) L (f 0).toNat ≤ 117 := ⟨pp_gx_ge _ _ _ _, pp_gx_le _ (by omega) (fun i i0 i1 _ => (h3 i i0 (by omega)).1.2)⟩
  have hLH : ∀ u : Int, 0 ≤ u → u < f 0 → L u ≤ pp_gx 0 (fun _ => true) L (f 0).toNat := fun u u0 u1 => pp_gx_of (b := 0) (p := fun _ => true) (g := L) _ u u0 (by omega) rfl
  obtain ⟨g, b1, b2⟩ := l_roots2 (E := E) (d := e) (B := B) (S := S.sI 101 15 (pp_gx 0 (fun _ => true) L (f 0).toNat)) (c := c) (f := f) (wd := wd) (L := L) (H := pp_gx 0 (fun _ => true) L (f 0).toNat) (by omega) eF hR hS (by simp only [mm_gs]) hb (f 0).toNat n' 0 (S.A 114) none none none (by omega) (by omega) (by omega) (fun u i u0 u1 => by omega)
  refine ⟨pp_gx 0 (fun _ => true) L (f 0).toNat, g, ⟨?_, hR, ?_, hb, fun u u0 u1 => ⟨?_, (h3 u u0 u1).2⟩, ?_⟩, hLH, ?_⟩
  · simp (disch := omega) only [mm_gs, mm_gA_ne]; exact eF
  · simp (disch := omega) only [mm_gs]
  · have l := hS.2.1 u u0 u1
    have g := pp_gx_ge (f (3 + 7 * u + 2)) (fun k => pp_Wr f k u) L (f 0).toNat
    have := hLH u u0 u1
    have := (bb_ro hR u0 u1).1
    omega
  · simp (disch := omega) only [mm_gs]; exact b1
  · rw [h, mm_e193_0]
    simp (disch := omega) only [mm_ptM]
    refine a2.trans ?_
    have e0 : (S.sI 101 15 (pp_gx 0 (fun _ => true) L (f 0).toNat)).sA 114 (S.A 114) = S.sI 101 15 (pp_gx 0 (fun _ => true) L (f 0).toNat) := pp_sA_id (S.sI 101 15 (pp_gx 0 (fun _ => true) L (f 0).toNat)) 114
    rw [e0] at b2
    exact b2
end
