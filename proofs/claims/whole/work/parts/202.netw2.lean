/-! NETWORK, both -/
section
variable {E : mm_E} {d B : Nat} {S : mm_S} {k : Nat}
theorem i_network (h : iv S k) (hE : pp_OE E B) (hd : 13 ≤ d) {n : Int} (hn : iv_n n) : iv_ok E B d S k 103 [.ref (mm_ad B 0), .int (mm_i n)] 248 [.ref (mm_ad B 101), .int (mm_i n)] iv_c3 := by
  obtain ⟨p1, p2, p3, p4⟩ := h.1
  have n1 := hn.1
  have n2 := hn.2
  obtain ⟨e, rfl⟩ : ∃ e, d = e + 2 := ⟨d - 2, by omega⟩
  by_cases q : 0 ≤ n ∧ n ≤ S.I 1 1
  · refine iv_rel (fun c T hT => ?_)
    have i101 : ∀ k, T.I 101 k = S.I 101 k := (hT 101 (by omega) (by omega)).1
    have aT : ∀ x, 101 ≤ x → x ≠ 123 → T.A x = S.A x := fun x h1 h2 => (hT x h1 h2).2
    have iT : ∀ x k, 101 ≤ x → x ≠ 123 → T.I x k = S.I x k := fun x k h1 h2 => (hT x h1 h2).1 k
    have dr := h.2.2.2.2.1
    -- the class begins
    obtain ⟨F, hF, hc⟩ := mm_w103 E (e + 1) B S c (mm_i n)
    obtain ⟨F2, hF2, hc2⟩ := mm_w79 E e B S c (mm_i n)
    have ce := c_empty (E := E) (d := e) (B := B) (S := S.sI 96 2 0) (c := c) (a := 14) (by omega) (by omega)
    obtain ⟨Se, hSe⟩ : ∃ Se, Se = ((((((((S.sI 96 2 0).sI 14 10 0).sI 14 11 165).sA (14 + 2) (pp_fl (fun _ => 0) ((S.sI 96 2 0).A (14 + 2)) 72)).sA (14 + 3) (pp_fl (fun _ => 0) ((S.sI 96 2 0).A (14 + 3)) 12)).sA (14 + 4) (pp_fl (fun _ => 0) ((S.sI 96 2 0).A (14 + 4)) 12)).sA (14 + 5) (pp_fl (fun _ => 0) ((S.sI 96 2 0).A (14 + 5)) 12)).sA (14 + 6) (pp_fl (fun _ => 0) ((S.sI 96 2 0).A (14 + 6)) 480)) := ⟨_, rfl⟩
    rw [← hSe] at ce
    have SeI : ∀ x k, ¬ (x = 14 ∧ (k = 10 ∨ k = 11)) → ¬ (x = 96 ∧ k = 2) → Se.I x k = S.I x k := fun x k h1 h2 => by
      rw [hSe]
      show (((S.sI 96 2 0).sI 14 10 0).sI 14 11 165).I x k = _
      rw [mm_gI_ne (by omega), mm_gI_ne (by omega), mm_gI_ne (by omega)]
    have SeA : ∀ x, ¬ (16 ≤ x ∧ x ≤ 20) → Se.A x = S.A x := fun x hx => by
      rw [hSe, mm_gA_ne (by omega), mm_gA_ne (by omega), mm_gA_ne (by omega), mm_gA_ne (by omega), mm_gA_ne (by omega)]
      rfl
    have e16 : ∀ i : Int, 0 ≤ i → i < 72 → Se.A 16 i = 0 := fun i i0 i1 => by rw [hSe]; exact pp_fl_in (g := fun _ => 0) i0 i1
    have e17 : ∀ i : Int, 0 ≤ i → i < 12 → Se.A 17 i = 0 := fun i i0 i1 => by rw [hSe]; exact pp_fl_in (g := fun _ => 0) i0 i1
    have e18 : ∀ i : Int, 0 ≤ i → i < 12 → Se.A 18 i = 0 := fun i i0 i1 => by rw [hSe]; exact pp_fl_in (g := fun _ => 0) i0 i1
    have e19 : ∀ i : Int, 0 ≤ i → i < 12 → Se.A 19 i = 0 := fun i i0 i1 => by rw [hSe]; exact pp_fl_in (g := fun _ => 0) i0 i1
    have e20 : ∀ i : Int, 0 ≤ i → i < 480 → Se.A 20 i = 0 := fun i i0 i1 => by rw [hSe]; exact pp_fl_in (g := fun _ => 0) i0 i1
    have mn : min n 400 = n := by omega
    have co := c_open (E := E) (d := e) (B := B) (S := Se) (c := c) (x := n) (by omega) q.1 (by omega) (by rw [SeA 2 (by omega), mn]; exact fun i i0 i1 => (p4 i i0 (by omega)).2)
    rw [mn] at co
    obtain ⟨So, hSo⟩ : ∃ So, So = (Se.sI 1 2 n).sI 1 4 0 := ⟨_, rfl⟩
    rw [← hSo] at co
    have SoI : ∀ x k, x ≠ 1 → So.I x k = Se.I x k := fun x k hx => by rw [hSo, mm_gI_ne (by omega), mm_gI_ne (by omega)]
    have So2 : So.I 1 2 = n := by rw [hSo, mm_gI_ne (by omega)]; exact mm_gs.1 _ _ _ _
    have SoA : So.A = Se.A := by rw [hSo]; rfl
    -- the model begins
    obtain ⟨G, hG, hm⟩ := mm_w248 E (e + 1) B T c (mm_i n)
    have mb := m_bare (E := E) (d := e + 1) (B := B) (S := T.sI 101 0 0) (c := c) (r := 103) (by omega) rfl
    obtain ⟨Tb, hTb⟩ : ∃ Tb, Tb = (T.sI 101 0 0).sA 103 (mm_u (pp_fl (fun _ => 0) ((T.sI 101 0 0).A 103) 190) 1 165) := ⟨_, rfl⟩
    rw [← hTb] at mb
    have TbA : ∀ x, x ≠ 103 → Tb.A x = T.A x := fun x hx => by rw [hTb, mm_gA_ne hx]; rfl
    have mo := m_opens (E := E) (d := e + 1) (B := B) (S := Tb) (c := c) (x := n) (by omega) q.1 (by omega) (fun i i0 i1 => by
      have z := p4 i i0 (by omega)
      rw [TbA 122 (by omega), aT 122 (by omega) (by omega), z.1]
      exact z.2)
    obtain ⟨To, hTo⟩ : ∃ To, To = (((Tb.sI 101 27 n).sI 101 28 0).sI 101 32 0).sI 101 35 0 := ⟨_, rfl⟩
    rw [← hTo] at mo
    have ToA : To.A = Tb.A := by rw [hTo]; rfl
    have ToI : ∀ x k, ¬ (x = 101 ∧ (k = 0 ∨ k = 27 ∨ k = 28 ∨ k = 32 ∨ k = 35)) → To.I x k = T.I x k := fun x k hx => by
      rw [hTo, mm_gI_ne (by omega), mm_gI_ne (by omega), mm_gI_ne (by omega), mm_gI_ne (by omega), hTb]
      show (T.sI 101 0 0).I x k = _
      exact mm_gI_ne (by omega)
    have To0 : To.I 101 0 = 0 := by
      rw [hTo, mm_gI_ne (by omega), mm_gI_ne (by omega), mm_gI_ne (by omega), mm_gI_ne (by omega), hTb]
      exact mm_gs.1 _ _ _ _
    have hG0 : rd_G (pp_tT So 0) (pp_tM To 0) := by
      refine rd_start h hT q.1 q.2 So2 (by rw [SoA]; exact SeA 2 (by omega)) ?_ ?_ ?_ (by rw [SoA]; exact SeA 15 (by omega)) (by rw [SoA]; exact e16) (by rw [SoA]; exact e17) (by rw [SoA]; exact e18) ?_ (by rw [ToA]; exact TbA 122 (by omega)) ?_ (fun i i0 i1 => ?_)
      · rw [SoI 96 2 (by omega), hSe]; rfl
      · rw [SoI 14 10 (by omega), hSe]; rfl
      · rw [SoI 14 11 (by omega), hSe]; rfl
      · rw [hTo, mm_gI_ne (by omega), mm_gI_ne (by omega), mm_gI_ne (by omega)]; exact mm_gs.1 _ _ _ _
      · rw [hTo, mm_gI_ne (by omega)]; exact mm_gs.1 _ _ _ _
      · rw [ToA, hTb, mm_gs.2.2.2.2.2.2.2.2.1]
        by_cases z : i = 1
        · rw [z, mm_u_eq, if_pos rfl]
        · rw [mm_u_ne z, if_neg z, pp_fl_in i0 i1]
    have tI : ∀ x k, x ≠ 1 → (pp_tT So 0).I x k = So.I x k := fun x k hx => by unfold pp_tT; rw [mm_gI_ne (by omega), mm_gI_ne (by omega), mm_gI_ne (by omega)]
    have t1I : (pp_tT So 0).I 1 2 = n := by unfold pp_tT; rw [mm_gI_ne (by omega), mm_gI_ne (by omega), mm_gI_ne (by omega)]; exact So2
    have t11 : (pp_tT So 0).I 1 1 = S.I 1 1 := by
      unfold pp_tT
      rw [mm_gI_ne (by omega), mm_gI_ne (by omega), mm_gI_ne (by omega), hSo, mm_gI_ne (by omega), mm_gI_ne (by omega)]
      exact SeI 1 1 (by omega) (by omega)
    have mI : ∀ x k, ¬ (x = 101 ∧ 28 ≤ k ∧ k ≤ 31) → (pp_tM To 0).I x k = To.I x k := fun x k hx => by unfold pp_tM; rw [mm_gI_ne (by omega), mm_gI_ne (by omega), mm_gI_ne (by omega), mm_gI_ne (by omega)]
    have g13 := hG0.1.1.2.2.1
    obtain ⟨S', T', m', f1, f2, m0, l1, l2, l3⟩ := rd_loop (E := E) (e := e) (e' := e + 1) (B := B) (c := c) (c' := c) (x1 := mm_i n) (x := mm_i n) (o2 := none) (o3 := none) hE (by omega) (by omega) 400 (pp_tT So 0) (pp_tM To 0) 0 (F2 + 99) (G + 99) hG0 (by omega) (by omega) (by omega) (by omega) (by omega)
    obtain ⟨m', rfl⟩ : ∃ q, m' = q + 20 := ⟨m' - 20, by omega⟩
    have SI : ∀ x k, x ≠ 1 → ¬ (x = 96 ∧ k = 2) → ¬ (x = 14 ∧ (k = 10 ∨ k = 11)) → S'.I x k = S.I x k := fun x k h1 h2 h3 => by rw [f1.1 x k (by omega) h2 (by omega), tI x k h1, SoI x k h1, SeI x k h3 h2]
    have SA : ∀ x, ¬ (15 ≤ x ∧ x ≤ 20) → S'.A x = S.A x := fun x hx => by
      rw [f1.2 x (by omega)]
      show So.A x = _
      rw [SoA, SeA x (by omega)]
    have SA2 : ∀ x, x = 19 ∨ x = 20 → S'.A x = Se.A x := fun x hx => by
      rw [f1.2 x (by omega)]
      show So.A x = _
      rw [SoA]
    have TI : ∀ x k, ¬ (x = 101 ∧ (k = 0 ∨ k = 27 ∨ (28 ≤ k ∧ k ≤ 33) ∨ k = 35)) → T'.I x k = T.I x k := fun x k hx => by rw [f2.1 x k (by omega), mI x k (by omega), ToI x k (by omega)]
    have T0 : T'.I 101 0 = 0 := by rw [f2.1 101 0 (by omega), mI 101 0 (by omega)]; exact To0
    have TA : ∀ x, x ≠ 103 → T'.A x = T.A x := fun x hx => by
      rw [f2.2.1 x hx]
      show To.A x = _
      rw [ToA, TbA x hx]
    have TL : T'.L = T.L := by
      rw [f2.2.2.1]
      show To.L = _
      rw [hTo, hTb]
      rfl
    have TJ : T'.J = T.J := by
      rw [f2.2.2.2]
      show To.J = _
      rw [hTo, hTb]
      rfl
    -- the draft settled
    have hV : rd_V S' := by
      rcases l3 with z | z
      · exact ⟨_, z.1.2.2.1, z.1.2.2.2.1⟩
      · exact z.2
    obtain ⟨f, fR, fQ⟩ := hV
    have a24 : S'.A (14 + 10) = S.A 24 := SA 24 (by omega)
    obtain ⟨ord, fl, wd, L, g1, g2⟩ := c_settle (E := E) (d := e) (B := B) (c := c) (S := S') (a := 14) (by omega) (by omega) (pp_EQ_NK fR fQ) (pp_EQ_GK fR fQ) (by rw [a24]; exact fun s s0 s1 => (dr s s0 s1).2.1)
    obtain ⟨Ss, hSs⟩ : ∃ Ss, Ss = (((((S'.sI 14 12 (S'.I 14 12 + 1)).sA (14 + 7) ord).sA (14 + 8) fl).sA (14 + 9) wd).sA (14 + 10) L) := ⟨_, rfl⟩
    rw [← hSs] at g2
    have sI : ∀ x k, ¬ (x = 14 ∧ k = 12) → Ss.I x k = S'.I x k := fun x k hx => by
      rw [hSs]
      show (S'.sI 14 12 _).I x k = _
      exact mm_gI_ne hx
    have sA : ∀ x, ¬ (21 ≤ x ∧ x ≤ 24) → Ss.A x = S'.A x := fun x hx => by
      rw [hSs, mm_gA_ne (by omega), mm_gA_ne (by omega), mm_gA_ne (by omega), mm_gA_ne (by omega)]
      rfl
    have s24 : Ss.A 24 = L := by rw [hSs]; rfl
    have s15 : ∀ s : Int, 0 ≤ s → s < 12 → pp_tR (Ss.A 15) s := by
      rw [sA 15 (by omega)]
      exact fQ.2.2.2.2.1
    have s24r : ∀ s : Int, 0 ≤ s → s < 12 → 0 ≤ Ss.A 24 s ∧ Ss.A 24 s ≤ 200 := by rw [s24]; exact g1.2.2.2.2.2
    have r79 : mm_ev E (e + 1) 79 [.ref (mm_ad B 96), .int (mm_i n)] (mm_hp B S c) = mm_oI (S'.I 96 2) (mm_hp B Ss c) := by
      rw [hc2, mm_e79_0]
      simp (disch := omega) only [mm_ptG]
      rw [ce, mm_cV_ok]
      simp (disch := omega) only [mm_ptG]
      rw [co, mm_cV_ok, l1]
      unfold rd_kc
      rw [g2, mm_cV_ok]
      simp (disch := omega) only [mm_ptG]
      rw [sI 96 2 (by omega)]
    have m248 : mm_ev E (e + 2) 248 [.ref (mm_ad B 101), .int (mm_i n)] (mm_hp B T c) = mm_r248_35 E (mm_ev E (e + 1)) (m' + 20) (mm_ad B 101) (mm_i n) none none (mm_hp B T' c) := by
      have t26 : (T.sI 101 0 0).I 101 26 = S.I 1 1 := by rw [mm_gI_ne (by omega), i101, p1]
      rw [hm, mm_e248_0]
      simp (disch := omega) only [mm_ptM]
      rw [t26, mm_br_lt (by omega) (by omega) (by omega) (by omega), if_neg (by omega), mm_br_le (by omega) (by omega) (by omega) (by omega), if_pos q.2, mb, mm_cV_ok, mo, mm_cV_ok, l2]
    rcases l3 with ⟨l3, l4⟩ | l3
    · obtain ⟨lT, l96, lD⟩ := l3
      have b32 : T'.I 101 32 = 0 := lT.2.2.1
      have b29 : T'.I 101 29 = 0 := by rw [lT.2.2.2.2.2.2.2.1]; exact l4
      have er := c_endReading (E := E) (d := e + 1) (B := B) (S := Ss) (c := c) (by omega) (v := 0) (by omega)
      rw [if_pos rfl] at er
      obtain ⟨S6, hS6⟩ : ∃ S6, S6 = (Ss.sI 0 13 (-1)).sI 1 1 0 := ⟨_, rfl⟩
      rw [← hS6] at er
      have i6 : ∀ x k, ¬ (x = 0 ∧ k = 13) → ¬ (x = 1 ∧ k = 1) → S6.I x k = Ss.I x k := fun x k h1 h2 => by rw [hS6, mm_gI_ne h2, mm_gI_ne h1]
      have a6 : ∀ x, S6.A x = Ss.A x := fun x => by rw [hS6]; rfl
      have D6 : rd_D S6 (T'.A 103) := rd_D_c (S := S') (fun k hk => by rw [i6 14 k (by omega) (by omega), sI 14 k (by omega)]) (fun x h1 h2 => by rw [a6, sA x (by omega)]) lD
      have r13 : S6.A (3 + 10) = S.A (3 + 10) := by rw [a6, sA _ (by omega), SA _ (by omega)]
      obtain ⟨T1, t1, t2, t3, t4, t5, t6, t7, t8, t9, t10, t11, t12, t13⟩ := c_become (E := E) (d := e + 1) (B := B) (c := c) (S := S6) (a := 3) (b := 14) (by omega) (by omega) (by omega) (by omega) (pp_EQ_NK D6.1 D6.2.1) (pp_EQ_GK D6.1 D6.2.1) (by rw [r13]; exact iv_13 h)
      obtain ⟨S8, hS8⟩ : ∃ S8, S8 = T1.sI 36 3 0 := ⟨_, rfl⟩
      have i8 : ∀ x k, ¬ (x = 36 ∧ k = 3) → S8.I x k = T1.I x k := fun x k hx => by rw [hS8]; exact mm_gI_ne hx
      have a8 : ∀ x, S8.A x = T1.A x := fun x => by rw [hS8]; rfl
      have c10 : T1.I 3 10 = T'.A 103 0 := by rw [t2]; exact D6.2.1.1
      -- the model's end
      have me := m_ends (E := E) (d := e + 1) (B := B) (S := T') (c := c) (by omega) (by omega)
      rw [b32, if_pos rfl] at me
      obtain ⟨T7, hT7⟩ : ∃ T7, T7 = (T'.sI 101 26 0).sI 101 34 (-1) := ⟨_, rfl⟩
      rw [← hT7] at me
      have cp := m_copy (E := E) (d := e + 1) (B := B) (S := T7) (c := c) (x := 102) (y := 103) (n := 190) (by omega) rfl rfl (by omega) (by omega)
      obtain ⟨T8, hT8⟩ : ∃ T8, T8 = T7.sA 102 (pp_fl (T7.A 103) (T7.A 102) 190) := ⟨_, rfl⟩
      have cp : mm_ev E (e + 1) 225 [.ref (mm_ad B 102), .ref (mm_ad B 103)] (mm_hp B T7 c) = mm_oV (mm_hp B T8 c) := by rw [cp, hT8]; rfl
      obtain ⟨T9, hT9⟩ : ∃ T9, T9 = T8.sI 101 4 0 := ⟨_, rfl⟩
      obtain ⟨t', f', r1, r2, r3, r4, r5⟩ := l_clr12 (E := E) (B := B) (S := T9) (c := c) (e := e + 1) (x1 := mm_i n) (x2 := mm_i 0) (by omega) 12 (m' + 19) 0 (T9.A 105) (T9.A 106) (by omega) (by omega) (by omega)
      have idL : (T9.sA 105 (T9.A 105)).sA 106 (T9.A 106) = T9 := by rw [pp_sA_id, pp_sA_id]
      rw [idL] at r5
      obtain ⟨U, hU⟩ : ∃ U, U = (T9.sA 105 t').sA 106 f' := ⟨_, rfl⟩
      rw [← hU] at r5
      have row9 : ∀ i : Int, 0 ≤ i → i < 190 → T9.A 102 i = T'.A 103 i := fun i i0 i1 => by
        rw [hT9]
        show T8.A 102 i = _
        rw [hT8, mm_gs.2.2.2.2.2.2.2.2.1, pp_fl_in i0 i1, hT7]
        rfl
      have row : ∀ i : Int, 0 ≤ i → i < 190 → U.A 102 i = T'.A 103 i := fun i i0 i1 => by
        rw [hU, mm_gA_ne (by omega), mm_gA_ne (by omega)]
        exact row9 i i0 i1
      rw [row9 0 (by omega) (by omega)] at r5
      have uI : ∀ x k, ¬ (x = 101 ∧ (k = 4 ∨ k = 26 ∨ k = 34)) → U.I x k = T'.I x k := fun x k hx => by
        rw [hU]
        show T9.I x k = _
        rw [hT9, mm_gI_ne (by omega), hT8]
        show T7.I x k = _
        rw [hT7, mm_gI_ne (by omega), mm_gI_ne (by omega)]
      have uA : ∀ x, x ≠ 102 → x ≠ 105 → x ≠ 106 → U.A x = T'.A x := fun x h1 h2 h3 => by
        rw [hU, mm_gA_ne h3, mm_gA_ne h2, hT9]
        show T8.A x = _
        rw [hT8, mm_gA_ne h1, hT7]
        rfl
      have u4 : U.I 101 4 = 0 := by rw [hU]; show T9.I 101 4 = 0; rw [hT9]; exact mm_gs.1 _ _ _ _
      have u26 : U.I 101 26 = 0 := by
        rw [hU]
        show T9.I 101 26 = 0
        rw [hT9, mm_gI_ne (by omega), hT8]
        show T7.I 101 26 = 0
        rw [hT7, mm_gI_ne (by omega)]
        exact mm_gs.1 _ _ _ _
      have u34 : U.I 101 34 = -1 := by
        rw [hU]
        show T9.I 101 34 = -1
        rw [hT9, mm_gI_ne (by omega), hT8]
        show T7.I 101 34 = -1
        rw [hT7]
        exact mm_gs.1 _ _ _ _
      have uL : U.L = T.L := by rw [hU, hT9, hT8, hT7]; exact TL
      have uJ : U.J = T.J := by rw [hU, hT9, hT8, hT7]; exact TJ
      have wI : ∀ k, (gl_g S8 U).I 3 k = T1.I 3 k := fun k => by rw [gl_I, if_pos (by omega), i8 3 k (by omega)]
      have wA : ∀ x, x < 101 → (gl_g S8 U).A x = T1.A x := fun x hx => by rw [gl_A, if_pos hx, a8]
      have w102 : (gl_g S8 U).A 102 = U.A 102 := by rw [gl_A, if_neg (by omega)]
      have rw3 : ∀ i : Int, 0 ≤ i → i < 190 → (gl_g S8 U).A 102 i = T'.A 103 i := fun i i0 i1 => by rw [w102]; exact row i i0 i1
      have qE : pp_EQ (gl_g S8 U) 3 (T'.A 103) := by
        have hQ := D6.2.1
        refine ⟨by rw [wI]; exact c10, by rw [wI, t3]; exact hQ.2.1, fun s s0 s1 => ?_, fun s w s0 s1 w0 w1 => ?_, fun s s0 s1 => ?_, fun s i s0 s1 i0 i1 => ?_, fun s i s0 s1 i0 i1 => ?_⟩
        · have z := t7 s s0 s1
          rw [wA (3 + 3) (by omega), wA (3 + 4) (by omega), z.1, z.2.1]
          exact hQ.2.2.1 s s0 s1
        · rw [wA (3 + 1) (by omega), t5 (s * 7 + w) (by omega) (by have := D6.1.1; omega)]
          exact hQ.2.2.2.1 s w s0 s1 w0 w1
        · rw [wA (3 + 1) (by omega)]
          exact t1.1.2.2.2.2 s s0 s1
        · rw [wA (3 + 2) (by omega), t6 (s * 6 + i) (by omega) (by have := D6.1.1; omega)]
          exact hQ.2.2.2.2.2.1 s i s0 s1 i0 i1
        · rw [wA (3 + 2) (by omega), t6 (s * 6 + i) (by have := D6.1.1; omega) (by omega)]
          exact hQ.2.2.2.2.2.2 s i s0 s1 i0 i1
      have c12 : T1.I 3 12 = S.I 3 12 + 1 := by rw [t4, i6 3 12 (by omega) (by omega), sI 3 12 (by omega), SI 3 12 (by omega) (by omega) (by omega)]
      have hk := h.2.2.2.2.2.2.2.2.2.1
      have ac := h.2.2.2.2.2.1
      refine ⟨S8, U, T'.A 103 0, ?_, ?_, fun a h1 h2 => ⟨fun k => ?_, ?_⟩, fun a h1 => ⟨fun k => ?_, fun k => ?_, ?_, ?_⟩, ?_, ?_, ?_⟩
      · rw [hc, mm_e103_0, mm_br_lt n1 n2 (by omega) (by omega), if_neg (by omega)]
        simp (disch := omega) only [mm_ptP]
        simp (disch := omega) only [mm_ptT]
        rw [mm_br_le n1 n2 (by omega) (by omega), if_pos q.2, r79, mm_cI_ok, l96, er, mm_cV_ok, mm_br_t rfl]
        simp (disch := omega) only [mm_ptP]
        rw [t13, mm_cV_ok, mm_e103_59]
        simp (disch := omega) only [mm_ptP]
        rw [c_forget (by omega), mm_cV_ok, ← hS8]
        simp (disch := omega) only [mm_ptP]
        simp (disch := omega) only [mm_ptN]
        rw [i8 3 10 (by omega), c10]
      · rw [m248, mm_e248_35]
        simp (disch := omega) only [mm_ptM]
        rw [b32, mm_br_t rfl, b29, mm_br_t rfl, me, mm_cI_ok, mm_br_t rfl]
        simp (disch := omega) only [mm_ptM]
        rw [cp, mm_cV_ok]
        simp (disch := omega) only [mm_ptM]
        rw [← hT9, r5]
      · rw [i8 a k (by omega), t9 a k (by omega), i6 a k (by omega) (by omega), sI a k (by omega), SI a k (by omega) (by omega) (by omega)]
      · rw [a8, t12 a (by omega), a6, sA a (by omega), SA a (by omega)]
      · rw [uI a k (by omega), TI a k (by omega)]
      · rw [uJ]
      · rw [uA a (by omega) (by omega) (by omega), TA a (by omega)]
      · rw [uL]
      · rw [uI 101 0 (by omega)]; exact T0
      · rw [uL]
      · refine iv_net (iv_Z h (p := -1) (f := Ss.A 15) (g := Ss.A 24) s15 s24r) (fun x y hx hn => ?_) (fun x hx hn => ?_) ⟨iv_RO_c rw3 D6.1, iv_EQ_c rw3 D6.1 qE, iv_NTc (T := T1) (fun k _ => wI k) (fun x _ _ => wA x (by omega)) t1⟩ ?_ ⟨?_, ?_, ?_, fun r r0 r1 => ?_⟩ ?_ (iv_R2_c rw3 D6.1 D6.2.2.1)
        · rw [gl_I]
          unfold iv_rI at hx
          unfold iv_nI at hn
          by_cases x1 : x = 1 ∧ y = 1
          · rw [x1.1, x1.2, if_pos (by omega), i8 1 1 (by omega), t9 1 1 (by omega), hS6]; rfl
          by_cases x2 : x = 0 ∧ y = 13
          · rw [x2.1, x2.2, if_pos (by omega), i8 0 13 (by omega), t9 0 13 (by omega), hS6]; rfl
          by_cases x3 : x = 101 ∧ y = 26
          · rw [x3.1, x3.2, if_neg (by omega), u26]; rfl
          by_cases x4 : x = 101 ∧ y = 34
          · rw [x4.1, x4.2, if_neg (by omega), u34]; rfl
          rw [iv_ZI x1 (by omega) x2]
          by_cases x5 : x < 101
          · rw [if_pos x5, i8 x y (by omega), t9 x y (by omega), i6 x y (by omega) (by omega), sI x y (by omega), SI x y (by omega) (by omega) (by omega)]
          · rw [if_neg x5, uI x y (by omega), TI x y (by omega), iT x y (by omega) (by omega)]
        · rw [gl_A]
          unfold iv_rA at hx
          unfold iv_nA at hn
          by_cases x1 : x = 15
          · rw [x1, if_pos (by omega), a8, t12 15 (by omega), a6]; rfl
          by_cases x2 : x = 24
          · rw [x2, if_pos (by omega), a8, t12 24 (by omega), a6]; rfl
          rw [iv_ZA x1 x2]
          by_cases x5 : x < 101
          · rw [if_pos x5, a8, t12 x (by omega), a6, sA x (by omega), SA x (by omega)]
          · rw [if_neg x5, uA x (by omega) (by omega) (by omega), TA x (by omega), aT x (by omega) (by omega)]
        · have u5 : (gl_g S8 U).A 105 = t' := by rw [gl_A, if_neg (by omega), hU]; rfl
          have u6 : (gl_g S8 U).A 106 = f' := by rw [gl_A, if_neg (by omega), hU]; rfl
          rw [wA 8 (by omega), wA 9 (by omega), u5, u6]
          refine ⟨fun s s0 s1 => ?_, fun s s0 s1 => ?_⟩
          · have z := (t7 s s0 s1).2.2
            have z : T1.A 8 s = S6.A 19 s := z
            rw [z, a6, sA 19 (by omega), SA2 19 (by omega), e19 s s0 s1, r1 s s0 s1]
            omega
          · have z := t8 s s0 s1
            have z : T1.A 9 s = S6.A 20 s := z
            rw [z, a6, sA 20 (by omega), SA2 20 (by omega), e20 s s0 s1, r3 s (by omega) s1]
            omega
        · rw [gl_I, gl_I, if_neg (by omega), if_pos (by omega), u4, hS8]; rfl
        · rw [gl_I, if_pos (by omega), hS8, mm_gs.1]; omega
        · rw [gl_I, if_pos (by omega), i8 36 4 (by omega), t9 36 4 (by omega), i6 36 4 (by omega) (by omega), sI 36 4 (by omega), SI 36 4 (by omega) (by omega) (by omega)]
          exact ac.2.2.1
        · rw [gl_I, if_pos (by omega), hS8, mm_gs.1] at r1
          omega
        · rw [wI, c12, iv_ZI (by omega) (by omega) (by omega)]
          omega
    · obtain ⟨⟨v, ⟨b1, b2, b3, b4⟩, b5⟩, -⟩ := l3
      have er := c_endReading (E := E) (d := e + 1) (B := B) (S := Ss) (c := c) (by omega) (v := v) (by omega)
      rw [if_neg (by omega)] at er
      obtain ⟨S6, hS6⟩ : ∃ S6, S6 = (Ss.sI 0 13 (Ss.I 1 3)).sI 1 1 0 := ⟨_, rfl⟩
      rw [← hS6] at er
      have me := m_ends (E := E) (d := e + 1) (B := B) (S := T') (c := c) (by omega) (by omega)
      rw [b2, if_neg (by omega)] at me
      obtain ⟨U, hU⟩ : ∃ U, U = (T'.sI 101 26 0).sI 101 34 (T'.I 101 33) := ⟨_, rfl⟩
      rw [← hU] at me
      have s13 : Ss.I 1 3 = S'.I 1 3 := sI 1 3 (by omega)
      refine ⟨S6, U, -10 - v, ?_, ?_, fun a h1 h2 => ⟨fun k => ?_, ?_⟩, fun a h1 => ⟨fun k => ?_, fun k => ?_, ?_, ?_⟩, ?_, ?_, ?_⟩
      · rw [hc, mm_e103_0, mm_br_lt n1 n2 (by omega) (by omega), if_neg (by omega)]
        simp (disch := omega) only [mm_ptP]
        simp (disch := omega) only [mm_ptT]
        rw [mm_br_le n1 n2 (by omega) (by omega), if_pos q.2, r79, mm_cI_ok, b5, er, mm_cV_ok, mm_br_eq (by omega) (by omega) (by omega) (by omega), if_neg (by omega)]
        simp (disch := omega) only [mm_hm]
      · rw [m248, mm_e248_35]
        simp (disch := omega) only [mm_ptM]
        rw [b2, mm_br_eq (by omega) (by omega) (by omega) (by omega), if_neg (by omega), me, mm_cI_ok, mm_br_eq (by omega) (by omega) (by omega) (by omega), if_neg (by omega)]
        simp (disch := omega) only [mm_hm]
      · rw [hS6, mm_gI_ne (by omega), mm_gI_ne (by omega), sI a k (by omega), SI a k (by omega) (by omega) (by omega)]
      · rw [hS6]
        show Ss.A a = _
        rw [sA a (by omega), SA a (by omega)]
      · rw [hU, mm_gI_ne (by omega), mm_gI_ne (by omega), TI a k (by omega)]
      · rw [hU]
        show T'.J a k = _
        rw [TJ]
      · rw [hU]
        show T'.A a = _
        exact TA a (by omega)
      · rw [hU]
        show T'.L a = _
        rw [TL]
      · rw [hU, mm_gI_ne (by omega), mm_gI_ne (by omega)]; exact T0
      · rw [hU]
        show T'.L 123 = _
        rw [TL]
      · refine iv_up (iv_fr (iv_Z h (p := S'.I 1 3) (f := Ss.A 15) (g := Ss.A 24) s15 s24r) (fun x y hx => ?_) (fun x hx => ?_)) (by omega)
        · rw [gl_I]
          unfold iv_rI at hx
          by_cases x1 : x = 1 ∧ y = 1
          · rw [x1.1, x1.2, if_pos (by omega), hS6]; rfl
          by_cases x2 : x = 0 ∧ y = 13
          · rw [x2.1, x2.2, if_pos (by omega), hS6, mm_gI_ne (by omega), mm_gs.1, s13]; rfl
          by_cases x3 : x = 101 ∧ y = 26
          · rw [x3.1, x3.2, if_neg (by omega), hU, mm_gI_ne (by omega), mm_gs.1]; rfl
          by_cases x4 : x = 101 ∧ y = 34
          · rw [x4.1, x4.2, if_neg (by omega), hU, mm_gs.1, b4]; rfl
          rw [iv_ZI x1 (by omega) x2]
          by_cases x5 : x < 101
          · rw [if_pos x5, hS6, mm_gI_ne (by omega), mm_gI_ne (by omega), sI x y (by omega), SI x y (by omega) (by omega) (by omega)]
          · rw [if_neg x5, hU, mm_gI_ne (by omega), mm_gI_ne (by omega), TI x y (by omega), iT x y (by omega) (by omega)]
        · rw [gl_A]
          unfold iv_rA at hx
          by_cases x1 : x = 15
          · rw [x1, if_pos (by omega), hS6]; rfl
          by_cases x2 : x = 24
          · rw [x2, if_pos (by omega), hS6]; rfl
          rw [iv_ZA x1 x2]
          by_cases x5 : x < 101
          · rw [if_pos x5, hS6]
            show Ss.A x = _
            rw [sA x (by omega), SA x (by omega)]
          · rw [if_neg x5, hU]
            show T'.A x = _
            rw [TA x (by omega), aT x (by omega) (by omega)]
  · refine iv_thr h 1 (by decide) (fun c => mm_v103 (by omega) (fun F e' hF he => ?_)) (fun c => ⟨0, mm_v248 (by omega) (fun F e' hF he => ?_)⟩)
    · rw [mm_e103_0, mm_br_lt n1 n2 (by omega) (by omega)]
      by_cases z : n < 0
      · rw [if_pos z]; rfl
      · rw [if_neg z]
        simp (disch := omega) only [mm_ptP]
        simp (disch := omega) only [mm_ptT]
        rw [mm_br_le n1 n2 (by omega) (by omega), if_neg (by omega)]
        rfl
    · have t26 : (S.sI 101 0 0).I 101 26 = S.I 1 1 := by rw [mm_gI_ne (by omega)]; exact p1
      rw [mm_e248_0]
      simp (disch := omega) only [mm_ptM]
      rw [mm_br_lt n1 n2 (by omega) (by omega), iv_MF (by omega), show iv_c3 1 = 1 from rfl]
      by_cases z : n < 0
      · rw [if_pos z]
      · rw [if_neg z, t26, mm_br_le n1 n2 (by omega) (by omega), if_neg (by omega)]
end
