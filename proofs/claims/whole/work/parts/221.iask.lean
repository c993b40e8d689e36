/-! ASK, both -/
section
variable {E : mm_E} {d B : Nat} {S : mm_S} {k : Nat}
theorem aq_ivN (h : iv S k) {T : mm_S} (h2 : T.A 102 = S.A 102) (h5 : T.A 105 = S.A 105) : aq_N S (T.A 102) (T.A 105) := by
  rw [h2, h5]
  exact ⟨h.2.1.1, h.2.1.2.1, h.2.1.2.2, iv_TM h, fun s s0 s1 => (h.2.2.1.1 s s0 s1).1⟩
/-- what holds behind the call -/
theorem aq_iv (h : iv S k) {T S1 U : mm_S} {p : Int} (hT : gl_M S T) (s1I : ∀ x l, x ≠ 97 → ¬ (x = 1 ∧ 1 ≤ l ∧ l ≤ 5) → ¬ (x = 0 ∧ l = 13) → S1.I x l = S.I x l) (s11 : S1.I 1 1 = 0) (s13 : S1.I 0 13 = p) (s1A : ∀ x, x ≠ 98 → x ≠ 99 → S1.A x = S.A x) (uI : ∀ x l, ¬ (x = 101 ∧ (l = 0 ∨ (26 ≤ l ∧ l ≤ 38))) → U.I x l = T.I x l) (u26 : U.I 101 26 = 0) (u34 : U.I 101 34 = p) (uA : U.A = T.A) : iv (gl_g S1 U) (k + 1) := by
  have dr := h.2.2.2.2.1
  refine iv_up (iv_fr (iv_Z h (p := p) (f := S.A 15) (g := S.A 24) (fun s s0 s1 => (dr s s0 s1).1) (fun s s0 s1 => (dr s s0 s1).2.1)) (fun x y hx => ?_) (fun x hx => ?_)) (by omega)
  · rw [gl_I]
    unfold iv_rI at hx
    by_cases x1 : x = 1 ∧ y = 1
    · rw [x1.1, x1.2, if_pos (by omega), s11]; rfl
    by_cases x2 : x = 0 ∧ y = 13
    · rw [x2.1, x2.2, if_pos (by omega), s13]; rfl
    by_cases x3 : x = 101 ∧ y = 26
    · rw [x3.1, x3.2, if_neg (by omega), u26]; rfl
    by_cases x4 : x = 101 ∧ y = 34
    · rw [x4.1, x4.2, if_neg (by omega), u34]; rfl
    rw [iv_ZI x1 (by omega) x2]
    by_cases x5 : x < 101
    · rw [if_pos x5, s1I x y (by omega) (by omega) x2]
    · rw [if_neg x5, uI x y (by omega), (hT x (by omega) (by omega)).1]
  · rw [gl_A]
    unfold iv_rA at hx
    by_cases x1 : x = 15
    · rw [x1, if_pos (by omega), s1A 15 (by omega) (by omega)]; rfl
    by_cases x2 : x = 24
    · rw [x2, if_pos (by omega), s1A 24 (by omega) (by omega)]; rfl
    rw [iv_ZA x1 x2]
    by_cases x5 : x < 101
    · rw [if_pos x5, s1A x (by omega) (by omega)]
    · rw [if_neg x5, uA, (hT x (by omega) (by omega)).2]
theorem i_ask (h : iv S k) (hE : pp_OE E B) (hd : 60 ≤ d) {n : Int} (hn : iv_n n) : iv_ok E B d S k 127 [.ref (mm_ad B 0), .int (mm_i n)] 261 [.ref (mm_ad B 101), .int (mm_i n)] iv_c3 := by
  obtain ⟨p1, p2, p3, p4⟩ := h.1
  have n1 := hn.1
  have n2 := hn.2
  have nn := iv_nn h
  obtain ⟨e, rfl⟩ : ∃ e, d = e + 2 := ⟨d - 2, by omega⟩
  by_cases q : 0 ≤ n ∧ n ≤ 200 ∧ n ≤ S.I 1 1
  · refine iv_rel (fun c T hT => ?_)
    have i101 : ∀ k, T.I 101 k = S.I 101 k := (hT 101 (by omega) (by omega)).1
    have a122 : T.A 122 = S.A 122 := (hT 122 (by omega) (by omega)).2
    obtain ⟨F, hF, hc⟩ := mm_w127 E (e + 1) B S c (mm_i n)
    obtain ⟨G, hG, hm⟩ := mm_w261 E (e + 1) B T c (mm_i n)
    have hB : ∀ i : Int, 0 ≤ i → i < n → T.A 122 i = S.A 2 i ∧ 0 ≤ S.A 2 i ∧ S.A 2 i ≤ 255 := fun i i0 i1 => by
      rw [a122]
      exact p4 i i0 (by omega)
    obtain ⟨S', T', g, v, r1, r2, r3, r4, r5, r6, r7, r8⟩ := aq_rd (E := E) (d := e + 1) (d' := e + 1) (B := B) (S := S) (T := T.sI 101 0 0) (c := c) (c' := c) (k := 0) (s := 0) (W := fun _ => 0) (n := n) hE (Or.inl rfl) q.1 q.2.1 hB (fun z => by omega) (by omega) (by omega)
    have t26 : (T.sI 101 0 0).I 101 26 = S.I 1 1 := by rw [mm_gI_ne (by omega), i101, p1]
    have er := c_endReading (E := E) (d := e + 1) (B := B) (S := S') (c := c) (by omega) (v := g) (by omega)
    have me := m_ends (E := E) (d := e + 1) (B := B) (S := T') (c := c) (by omega) (by omega)
    rw [r5] at me
    have cl : mm_ev E (e + 2) 127 [.ref (mm_ad B 0), .int (mm_i n)] (mm_hp B S c) = mm_r127_47 E (mm_ev E (e + 1)) (F + 99) (mm_ad B 0) (mm_i n) (mm_i g) (mm_hp B ((S'.sI 0 13 (if g = 0 then -1 else S'.I 1 3)).sI 1 1 0) c) := by
      rw [hc, mm_e127_0, mm_br_lt n1 n2 (by omega) (by omega), if_neg (by omega), mm_br_lt (by omega) (by omega) n1 n2, if_neg (by omega)]
      simp (disch := omega) only [mm_ptP]
      simp (disch := omega) only [mm_ptT]
      rw [mm_br_le n1 n2 (by omega) (by omega), if_pos q.2.2, r1, mm_cI_ok, er, mm_cV_ok]
    have ml : mm_ev E (e + 2) 261 [.ref (mm_ad B 101), .int (mm_i n)] (mm_hp B T c) = mm_r261_43 E (mm_ev E (e + 1)) (G + 99) (mm_ad B 101) (mm_i n) v (mm_i g) none none none (mm_hp B ((T'.sI 101 26 0).sI 101 34 (if g = 0 then -1 else T'.I 101 33)) c) := by
      rw [hm, mm_e261_0]
      simp (disch := omega) only [mm_ptM]
      rw [mm_br_lt n1 n2 (by omega) (by omega), if_neg (by omega), t26, mm_br_lt (by omega) (by omega) n1 n2, if_neg (by omega), mm_br_le n1 n2 (by omega) (by omega), if_pos q.2.1, r2, mm_cI_ok, me, mm_cI_ok]
    have T0 : T'.I 101 0 = 0 := by rw [r4.1 101 0 (by omega)]; exact mm_gs.1 _ _ _ _
    by_cases g0 : g = 0
    · subst g0
      rw [if_pos rfl] at cl ml
      obtain ⟨w1, w2, w3, w4, w5, w6⟩ := r8 rfl
      obtain ⟨U0, hU0⟩ : ∃ U0, U0 = (T'.sI 101 26 0).sI 101 34 (-1) := ⟨_, rfl⟩
      rw [← hU0] at ml
      have u0A : U0.A = T.A := by
        rw [hU0]
        show T'.A = T.A
        rw [r4.2.1]
        rfl
      have u0L : U0.L = T.L := by
        rw [hU0]
        show T'.L = T.L
        rw [r4.2.2.1]
        rfl
      have u0J : U0.J = T.J := by
        rw [hU0]
        show T'.J = T.J
        rw [r4.2.2.2]
        rfl
      have u38 : U0.I 101 38 = aq_K S n := by
        rw [hU0, mm_gI_ne (by omega), mm_gI_ne (by omega)]
        exact w2
      have s5 : (aq_ed S').I 97 5 = aq_K S n := by
        unfold aq_ed
        rw [mm_gI_ne (by omega), mm_gI_ne (by omega)]
        exact w1
      have s3 : (aq_ed S').I 3 10 = S.I 3 10 := by
        unfold aq_ed
        rw [mm_gI_ne (by omega), mm_gI_ne (by omega), r3.1 3 10 (by omega) (by omega)]
      obtain ⟨F2, hF2, hc2⟩ := mm_w71 E e B (aq_ed S') c
      have hx : ∃ x : Int32, (aq_K S n = 1 → x = mm_i (-1)) ∧ mm_r71_0 E (mm_ev E e) (F2 + 100) (mm_ad B 97) (mm_hp B (aq_ed S') c) = mm_r71_16 E (mm_ev E e) (F2 + 99) (mm_ad B 97) x (mm_i 0) none (mm_hp B (aq_ed S') c) ∧ mm_r261_43 E (mm_ev E (e + 1)) (G + 99) (mm_ad B 101) (mm_i n) v (mm_i 0) none none none (mm_hp B U0 c) = mm_r261_71 E (mm_ev E (e + 1)) (G + 98) (mm_ad B 101) (mm_i n) v (mm_i 0) x (mm_i 0) none (mm_hp B U0 c) := by
        rw [mm_e71_0, mm_e261_43, mm_br_t rfl]
        simp (disch := omega) only [mm_ptQ]
        simp (disch := omega) only [mm_ptM]
        rw [s5, u38, mm_br_eq (by omega) (by omega) (by omega) (by omega), mm_br_eq (by omega) (by omega) (by omega) (by omega)]
        by_cases z : aq_K S n = 1
        · exact ⟨mm_i (-1), fun _ => rfl, by rw [if_pos z], by rw [if_pos z]⟩
        · exact ⟨mm_i 0, fun y => absurd y z, by rw [if_neg z], by rw [if_neg z]⟩
      obtain ⟨x, x0, x1, x2⟩ := hx
      obtain ⟨U, y, st, l1, l2, l3⟩ := aq_loop (E := E) (e := e) (e1 := e + 1) (f := e + 1) (B := B) (S := S) (S' := S') (T0 := T) (c := c) (n := n) (x2 := v) (x3 := mm_i 0) hE q.1 q.2.1 hB (aq_ivN h (hT 102 (by omega) (by omega)).2 (hT 105 (by omega) (by omega)).2) (by omega) (by omega) (by omega) r1 w3 s5 s3 (S.I 3 10).toNat 0 U0 ((aq_ed S').A 99) x none none (G + 98) (F2 + 99) (by omega) (by omega) (by omega) (by omega) u0A x0
      rw [pp_sA_id] at l1
      have uI : ∀ a l, ¬ (a = 101 ∧ (l = 0 ∨ (26 ≤ l ∧ l ≤ 38))) → U.I a l = T.I a l := fun a l hl => by
        rw [l3.1 a l (by omega), hU0, mm_gI_ne (by omega), mm_gI_ne (by omega), r4.1 a l (by omega), mm_gI_ne (by omega)]
      have s1I : ∀ a l, a ≠ 97 → ¬ (a = 1 ∧ 1 ≤ l ∧ l ≤ 5) → ¬ (a = 0 ∧ l = 13) → ((aq_ed S').sA 99 st).I a l = S.I a l := fun a l h1 h2 h3 => by
        show (aq_ed S').I a l = _
        unfold aq_ed
        rw [mm_gI_ne (by omega), mm_gI_ne (by omega), r3.1 a l (by omega) (by omega)]
      have s1A : ∀ a, a ≠ 98 → a ≠ 99 → ((aq_ed S').sA 99 st).A a = S.A a := fun a h1 h2 => by
        rw [mm_gA_ne h2]
        exact r3.2 a h1
      have uA : U.A = T.A := by rw [l3.2.1, u0A]
      have uL : U.L = T.L := by rw [l3.2.2.1, u0L]
      have uJ : U.J = T.J := by rw [l3.2.2.2, u0J]
      refine ⟨(aq_ed S').sA 99 st, U, y.toInt, ?_, ?_, fun a h1 h2 => ⟨fun l => s1I a l (by omega) (by omega) (by omega), s1A a (by omega) (by omega)⟩, fun a h1 => ⟨fun l => uI a l (by omega), fun l => by rw [uJ], by rw [uA], by rw [uL]⟩, ?_, by rw [uL], ?_⟩
      · rw [cl, mm_e127_47, mm_br_t rfl, mm_e127_51]
        simp (disch := omega) only [mm_ptP]
        have hc3 : mm_ev E (e + 1) 71 [.ref (mm_ad B 97)] (mm_hp B ((S'.sI 0 13 (-1)).sI 1 1 0) c) = some (.inl (some (.int y)), mm_hp B ((aq_ed S').sA 99 st) c) := by
          have z := hc2
          rw [x1, l1] at z
          exact z
        rw [hc3, mm_cI_ok]
        show _ = some (Sum.inl (some (Value.int (mm_i y.toInt))), _)
        rw [mm_i_of]
      · rw [ml, x2, l2]
        show _ = some (Sum.inl (some (Value.int (mm_i y.toInt))), _)
        rw [mm_i_of]
      · rw [l3.1 101 0 (by omega), hU0, mm_gI_ne (by omega), mm_gI_ne (by omega), T0]
      · refine aq_iv h (p := -1) hT s1I ?_ ?_ s1A uI ?_ ?_ uA
        · exact mm_gs.1 (S'.sI 0 13 (-1)) 1 1 0
        · show ((S'.sI 0 13 (-1)).sI 1 1 0).I 0 13 = -1
          rw [mm_gI_ne (by omega)]
          exact mm_gs.1 _ _ _ _
        · rw [l3.1 101 26 (by omega), hU0, mm_gI_ne (by omega)]
          exact mm_gs.1 _ _ _ _
        · rw [l3.1 101 34 (by omega), hU0]
          exact mm_gs.1 _ _ _ _
    · rw [if_neg g0] at cl ml
      obtain ⟨U, hU⟩ : ∃ U, U = (T'.sI 101 26 0).sI 101 34 (T'.I 101 33) := ⟨_, rfl⟩
      rw [← hU] at ml
      obtain ⟨S1, hS1⟩ : ∃ S1, S1 = (S'.sI 0 13 (S'.I 1 3)).sI 1 1 0 := ⟨_, rfl⟩
      rw [← hS1] at cl
      have uA : U.A = T.A := by
        rw [hU]
        show T'.A = T.A
        rw [r4.2.1]
        rfl
      have uL : U.L = T.L := by
        rw [hU]
        show T'.L = T.L
        rw [r4.2.2.1]
        rfl
      have uJ : U.J = T.J := by
        rw [hU]
        show T'.J = T.J
        rw [r4.2.2.2]
        rfl
      have uI : ∀ a l, ¬ (a = 101 ∧ (l = 0 ∨ (26 ≤ l ∧ l ≤ 38))) → U.I a l = T.I a l := fun a l hl => by
        rw [hU, mm_gI_ne (by omega), mm_gI_ne (by omega), r4.1 a l (by omega), mm_gI_ne (by omega)]
      have s1I : ∀ a l, a ≠ 97 → ¬ (a = 1 ∧ 1 ≤ l ∧ l ≤ 5) → ¬ (a = 0 ∧ l = 13) → S1.I a l = S.I a l := fun a l h1 h2 h3 => by
        rw [hS1, mm_gI_ne (by omega), mm_gI_ne (by omega), r3.1 a l (by omega) (by omega)]
      have s1A : ∀ a, a ≠ 98 → a ≠ 99 → S1.A a = S.A a := fun a h1 h2 => by
        rw [hS1]
        exact r3.2 a h1
      refine ⟨S1, U, -1000000000 - g, ?_, ?_, fun a h1 h2 => ⟨fun l => s1I a l (by omega) (by omega) (by omega), s1A a (by omega) (by omega)⟩, fun a h1 => ⟨fun l => uI a l (by omega), fun l => by rw [uJ], by rw [uA], by rw [uL]⟩, ?_, by rw [uL], ?_⟩
      · rw [cl, mm_e127_47, mm_br_eq (by omega) (by omega) (by omega) (by omega), if_neg g0]
        simp (disch := omega) only [mm_hm]
      · rw [ml, mm_e261_43, mm_br_eq (by omega) (by omega) (by omega) (by omega), if_neg g0]
        simp (disch := omega) only [mm_hm]
      · rw [hU, mm_gI_ne (by omega), mm_gI_ne (by omega), T0]
      · refine aq_iv h (p := S'.I 1 3) hT s1I ?_ ?_ s1A uI ?_ ?_ uA
        · rw [hS1]
          exact mm_gs.1 _ _ _ _
        · rw [hS1, mm_gI_ne (by omega)]
          exact mm_gs.1 _ _ _ _
        · rw [hU, mm_gI_ne (by omega)]
          exact mm_gs.1 _ _ _ _
        · rw [hU, mm_gs.1, r7 g0]
  · refine iv_thr h 1 (by decide) (fun c => mm_v127 (by omega) (fun F e' hF he => ?_)) (fun c => ⟨0, mm_v261 (by omega) (fun F e' hF he => ?_)⟩)
    · rw [mm_e127_0, mm_br_lt n1 n2 (by omega) (by omega), mm_br_lt (by omega) (by omega) n1 n2]
      by_cases z : n < 0
      · rw [if_pos z]; rfl
      · rw [if_neg z]
        by_cases z2 : 200 < n
        · rw [if_pos z2]; rfl
        · rw [if_neg z2]
          simp (disch := omega) only [mm_ptP]
          simp (disch := omega) only [mm_ptT]
          rw [mm_br_le n1 n2 (by omega) (by omega), if_neg (by omega)]
          rfl
    · have t26 : (S.sI 101 0 0).I 101 26 = S.I 1 1 := by rw [mm_gI_ne (by omega)]; exact p1
      rw [mm_e261_0]
      simp (disch := omega) only [mm_ptM]
      rw [mm_br_lt n1 n2 (by omega) (by omega), iv_MF (by omega), show iv_c3 1 = 1 from rfl]
      by_cases z : n < 0
      · rw [if_pos z]
      · rw [if_neg z, t26, mm_br_lt (by omega) (by omega) n1 n2]
        by_cases z2 : S.I 1 1 < n
        · rw [if_pos z2]
        · rw [if_neg z2, mm_br_le n1 n2 (by omega) (by omega), if_neg (by omega)]
end
