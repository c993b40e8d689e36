/-! ASK: a question read whole -/
def aq_fS (S S' : mm_S) : Prop := (∀ x l, x ≠ 97 → ¬ (x = 1 ∧ 2 ≤ l ∧ l ≤ 5) → S'.I x l = S.I x l) ∧ (∀ x, x ≠ 98 → S'.A x = S.A x)
def aq_fT (T T' : mm_S) : Prop := (∀ x l, ¬ (x = 101 ∧ 27 ≤ l ∧ l ≤ 38 ∧ l ≠ 34) → T'.I x l = T.I x l) ∧ T'.A = T.A ∧ T'.L = T.L ∧ T'.J = T.J
theorem aq_fT_t {S U V : mm_S} (h : aq_fT S U) (g : aq_fT U V) : aq_fT S V := ⟨fun x k a => (g.1 x k a).trans (h.1 x k a), g.2.1.trans h.2.1, g.2.2.1.trans h.2.2.1, g.2.2.2.trans h.2.2.2⟩
theorem aq_fT_r (S : mm_S) : aq_fT S S := ⟨fun _ _ _ => rfl, rfl, rfl, rfl⟩
/-- how it ends -/
def aq_R (E : mm_E) (B : Nat) (c c' : mm_N) (k s : Int) (W : Int → Int) (S T : mm_S) (n : Int) (C M : mm_R) : Prop := ∃ (S' T' : mm_S) (g : Int) (v : Int32), C = mm_oI g (mm_hp B S' c) ∧ M = some (.inl (some (.int v)), mm_hp B T' c') ∧ aq_fS S S' ∧ aq_fT T T' ∧ T'.I 101 32 = g ∧ (0 ≤ g ∧ g ≤ 5) ∧ (g ≠ 0 → T'.I 101 33 = S'.I 1 3) ∧ (g = 0 → S'.I 97 5 = aq_K S n ∧ T'.I 101 38 = aq_K S n ∧ (0 ≤ aq_K S n ∧ aq_K S n ≤ 4) ∧ (0 ≤ S'.I 97 4 ∧ S'.I 97 4 ≤ 200) ∧ (aq_K S n < 2 → v = mm_i 0 ∨ v = mm_i 1) ∧ (k = 1 → aq_C E B s W (S'.A 98) 0 (S'.I 97 4) v 0))
section
variable {E : mm_E} {d d' B : Nat} {S T : mm_S} {c c' : mm_N} {k s : Int} {W : Int → Int}
theorem aq_rd {n : Int} (hE : pp_OE E B) (hk : k = 0 ∨ k = 1) (n0 : 0 ≤ n) (n1 : n ≤ 200) (hB : ∀ i : Int, 0 ≤ i → i < n → T.A 122 i = S.A 2 i ∧ 0 ≤ S.A 2 i ∧ S.A 2 i ≤ 255) (hM : k = 1 → aq_M E B s W T) (hd : 26 ≤ d) (hd' : 54 ≤ d') : aq_R E B c c' k s W S T n (mm_ev E d 63 [.ref (mm_ad B 97), .int (mm_i n)] (mm_hp B S c)) (mm_ev E d' 260 [.ref (mm_ad B 101), .int (mm_i n), .int (mm_i s), .int (mm_i k)] (mm_hp B T c')) := by
  obtain ⟨e, rfl⟩ : ∃ e, d = e + 1 := ⟨d - 1, by omega⟩
  obtain ⟨f, rfl⟩ : ∃ f, d' = f + 1 := ⟨d' - 1, by omega⟩
  obtain ⟨F, hF, hc⟩ := mm_w63 E e B S c (mm_i n)
  obtain ⟨G, hG, hm⟩ := mm_w260 E f B T c' (mm_i n) (mm_i s) (mm_i k)
  have mn : min n 400 = n := by omega
  have co : mm_ev E e 94 [.ref (mm_ad B 1), .int (mm_i n)] (mm_hp B ((S.sI 97 6 0).sI 97 4 0) c) = mm_oV (mm_hp B (aq_op1 S n) c) := by
    have z := c_open (E := E) (d := e) (B := B) (S := (S.sI 97 6 0).sI 97 4 0) (c := c) (x := n) (by omega) n0 (by omega) (by rw [mn]; exact fun i i0 i1 => (hB i i0 i1).2)
    rw [mn] at z
    exact z
  have mo : mm_ev E f 238 [.ref (mm_ad B 101), .int (mm_i n)] (mm_hp B ((T.sI 101 36 s).sI 101 37 k) c') = mm_oV (mm_hp B (aq_op2 T n s k) c') := m_opens (E := E) (d := f) (B := B) (S := (T.sI 101 36 s).sI 101 37 k) (c := c') (x := n) (by omega) n0 (by omega) (fun i i0 i1 => by
    have z := hB i i0 i1
    show 0 ≤ T.A 122 i ∧ T.A 122 i ≤ 255
    rw [z.1]
    exact z.2)
  have hT : rd_T (aq_op1 S n) (aq_op2 T n s k) := aq_oT n0 n1 hB
  have hkz : mm_i k = mm_i 0 ∨ mm_i k = mm_i 1 := by
    rcases hk with r | r
    · exact Or.inl (by rw [r])
    · exact Or.inr (by rw [r])
  have kr := aq_find_r (S := aq_op1 S n) aq_al 0 (by omega)
  have kl : (aq_al.length : Int) = 5 := rfl
  rw [kl] at kr
  have kd : aq_find (aq_op1 S n) aq_al 0 = aq_K S n := rfl
  have hcl : mm_ev E (e + 1) 63 [.ref (mm_ad B 97), .int (mm_i n)] (mm_hp B S c) = if aq_K S n = -1 then mm_oI 1 (mm_hp B ((aq_op1 S n).sI 97 5 (aq_K S n)) c) else mm_r63_41 E (mm_ev E e) (F + 99) (mm_ad B 97) (mm_i n) none (mm_hp B ((aq_op1 S n).sI 97 5 (aq_K S n)) c) := by
    rw [hc, mm_e63_0]
    simp (disch := omega) only [mm_ptQ]
    rw [co, mm_cV_ok]
    simp (disch := omega) only [mm_ptQ]
    rw [c_amongA hE hT.1 (by omega), mm_cI_ok, kd]
    simp (disch := omega) only [mm_ptQ, mm_gs]
    rw [mm_br_eq (by omega) (by omega) (by omega) (by omega)]
  have hml : mm_ev E (f + 1) 260 [.ref (mm_ad B 101), .int (mm_i n), .int (mm_i s), .int (mm_i k)] (mm_hp B T c') = mm_r260_99 E (mm_ev E f) (G + 98) (mm_ad B 101) (mm_i n) (mm_i s) (mm_i k) none (mm_hp B (if aq_K S n = -1 then rd_w ((aq_op2 T n s k).sI 101 38 4) 1 else (aq_op2 T n s k).sI 101 38 (aq_K S n)) c') := by
    rw [hm, mm_e260_0]
    simp (disch := omega) only [mm_ptM]
    rw [aq_bz hkz, mo, mm_cV_ok, aq_kind (S := aq_op1 S n) hE hT (by omega)]
    rfl
  rw [hcl, hml]
  by_cases q : aq_K S n = -1
  · rw [if_pos q, if_pos q]
    have g4 : rd_T (aq_op1 S n) ((aq_op2 T n s k).sI 101 38 4) := rd_T_c (S := aq_op1 S n) (T := aq_op2 T n s k) (fun _ _ => rfl) rfl (fun k hk => mm_gI_ne (by omega)) rfl hT
    obtain ⟨b1, b2, b3, b4⟩ := rd_wB g4 (v := 1) (by omega) (by omega)
    obtain ⟨U, hU⟩ : ∃ U, U = rd_w ((aq_op2 T n s k).sI 101 38 4) 1 := ⟨_, rfl⟩
    rw [← hU] at b1 b2 b4
    have u38 : U.I 101 38 = 4 := by rw [hU, rd_wI (by omega)]; exact mm_gs.1 _ _ _ _
    rw [← hU]
    refine ⟨(aq_op1 S n).sI 97 5 (aq_K S n), U, 1, mm_i 0, rfl, ?_, ⟨fun x l h1 h2 => ?_, fun x hx => rfl⟩, ⟨fun x l h1 => ?_, ?_, ?_, ?_⟩, b2, by omega, fun _ => ?_, fun z => by omega⟩
    · rw [mm_e260_99, rd_pasb b1 (by omega) (by omega), mm_cV_ok]
      simp (disch := omega) only [mm_ptM]
      rw [u38, mm_br_le (by omega) (by omega) (by omega) (by omega), if_pos (by omega), m_256b b1 (by omega) (by omega), mm_cI_ok, mm_e260_130]
      simp (disch := omega) only [mm_ptM]
      rw [b2, mm_br_eq (by omega) (by omega) (by omega) (by omega), if_neg (by omega)]
    · rw [mm_gI_ne (by omega), aq_o1I (by omega) (by omega)]
    · rw [hU, rd_wI (by omega), mm_gI_ne (by omega), aq_o2I (by omega)]
    · rw [hU]; rfl
    · rw [hU]; rfl
    · rw [hU]; rfl
    · rw [b4, mm_gI_ne (by omega)]
  · have K0 : 0 ≤ aq_K S n ∧ aq_K S n ≤ 4 := by omega
    rw [if_neg q, if_neg q]
    obtain ⟨S1, hS1⟩ : ∃ S1, S1 = (aq_op1 S n).sI 97 5 (aq_K S n) := ⟨_, rfl⟩
    obtain ⟨T1, hT1⟩ : ∃ T1, T1 = (aq_op2 T n s k).sI 101 38 (aq_K S n) := ⟨_, rfl⟩
    rw [← hS1, ← hT1]
    have g1 : rd_T S1 T1 := by
      rw [hS1, hT1]
      exact rd_T_c (S := aq_op1 S n) (T := aq_op2 T n s k) (fun k hk => mm_gI_ne (by omega)) rfl (fun k hk => mm_gI_ne (by omega)) rfl hT
    have s1I : ∀ x l, ¬ (x = 97 ∧ l = 5) → S1.I x l = (aq_op1 S n).I x l := fun x l h => by rw [hS1]; exact mm_gI_ne h
    have t1I : ∀ x l, ¬ (x = 101 ∧ l = 38) → T1.I x l = (aq_op2 T n s k).I x l := fun x l h => by rw [hT1]; exact mm_gI_ne h
    have o3 := aq_o235 T n s k
    have G1 : aq_G S1 T1 k s 0 := ⟨g1, by rw [s1I _ _ (by omega), aq_o16], by rw [t1I _ _ (by omega)]; exact o3.2.2, by rw [t1I _ _ (by omega)]; exact o3.2.1, by rw [t1I _ _ (by omega)]; exact o3.1, by rw [s1I _ _ (by omega), aq_o12]; exact n1, by rw [s1I _ _ (by omega), aq_o14]; omega, by rw [s1I _ _ (by omega), aq_o14]; exact g1.1.2.2.1⟩
    obtain ⟨G2, -, e4⟩ := aq_G_s G1
    rw [s1I _ _ (by omega), aq_o14] at e4
    have s5 : (rd_s S1).I 97 5 = aq_K S n := by rw [rd_sI (by omega), hS1]; exact mm_gs.1 _ _ _ _
    have t38 : (rd_m T1).I 101 38 = aq_K S n := by rw [rd_mI (by omega), hT1]; exact mm_gs.1 _ _ _ _
    have hA : (rd_m T1).A = T.A := by rw [hT1]; rfl
    have hL : (rd_m T1).L = T.L := by rw [hT1]; rfl
    have hJ : (rd_m T1).J = T.J := by rw [hT1]; rfl
    have sA1 : (rd_s S1).A = S.A := by rw [hS1]; rfl
    rw [mm_e63_41, mm_e260_99]
    simp (disch := omega) only [mm_ptQ]
    rw [rd_adv g1.1 (by omega), mm_cV_ok, rd_pas g1.2.1 g1.2.2.1 (by omega), mm_cV_ok]
    simp (disch := omega) only [mm_ptQ]
    simp (disch := omega) only [mm_ptM]
    rw [s5, t38, mm_br_le (by omega) (by omega) (by omega) (by omega), mm_br_le (by omega) (by omega) (by omega) (by omega)]
    -- how both end
    have fin : ∀ (S' T' : mm_S) (v : Int32) (C M : mm_R), aq_FS (rd_s S1) S' → aq_FT (rd_m T1) T' → (aq_K S n < 2 → v = mm_i 0 ∨ v = mm_i 1) → M = mm_r260_130 E (mm_ev E f) (G + 97) (mm_ad B 101) (mm_i n) (mm_i s) (mm_i k) none v (mm_hp B T' c') → ((C = mm_oI 1 (mm_hp B S' c) ∧ aq_G S' T' k s 0 ∧ (k = 1 → aq_C E B s W (S'.A 98) 0 (S'.I 97 4) v 0)) ∨ (C = mm_oI 0 (mm_hp B S' c) ∧ aq_X S' T')) → aq_R E B c c' k s W S T n (mm_cI [] C (fun v_5 h_4 => mm_br (v_5 = (mm_i 0)) (mm_r63_89 E (mm_ev E e) (F + 98) (mm_ad B 97) (mm_i n) v_5 h_4) (mm_gR h_4 (mm_ad B 97) 4 0 fun p_6 => mm_gI h_4 p_6 7 5 fun v_7 => (mm_br (v_7 = (mm_i 0)) (mm_r63_89 E (mm_ev E e) (F + 98) (mm_ad B 97) (mm_i n) v_5 h_4) (mm_pF h_4 (mm_ad B 97) 4 6 (.int (mm_i 1)) fun h_8 => mm_r63_89 E (mm_ev E e) (F + 98) (mm_ad B 97) (mm_i n) v_5 h_8))))) M := by
      intro S' T' v C M f1 f2 fv fM fC
      obtain ⟨S2, T2, g, r1, r2, r3, r4, r5, r6, r7, r8⟩ := aq_fin (E := E) (e := e) (f := f) (B := B) (c := c) (c' := c') (x1 := mm_i n) (y1 := mm_i n) (y2 := mm_i s) (y3 := mm_i k) (o4 := none) (n := F + 97) (m := G + 96) (v := v) (by omega) fC
      refine ⟨S2, T2, g, v, r1, fM.trans r2, ⟨fun x l h1 h2 => ?_, fun x hx => ?_⟩, ⟨fun x l h1 => ?_, ?_, ?_, ?_⟩, r5, r6, r7, fun g0 => ?_⟩
      · have z : S2.I x l = S'.I x l := by
          rcases r3 with r | r
          · rw [r]
          · rw [r]; exact mm_gI_ne (by omega)
        rw [z, f1.1 x l (by omega) (by omega), rd_sI (by omega), s1I x l (by omega), aq_o1I (by omega) (by omega)]
      · have z : S2.A x = S'.A x := by
          rcases r3 with r | r
          · rw [r]
          · rw [r]; rfl
        rw [z, f1.2.1 x hx, sA1]
      · have z : T2.I x l = T'.I x l := by
          rcases r4 with r | r
          · rw [r]
          · rw [r]; exact rd_wI (by omega)
        rw [z, f2.1 x l (by omega), rd_mI (by omega), t1I x l (by omega), aq_o2I (by omega)]
      · have z : T2.A = T'.A := by
          rcases r4 with r | r
          · rw [r]
          · rw [r]; rfl
        rw [z, f2.2.1, hA]
      · have z : T2.L = T'.L := by
          rcases r4 with r | r
          · rw [r]
          · rw [r]; rfl
        rw [z, f2.2.2.1, hL]
      · have z : T2.J = T'.J := by
          rcases r4 with r | r
          · rw [r]
          · rw [r]; rfl
        rw [z, f2.2.2.2, hJ]
      · obtain ⟨w1, w2, w3, w4⟩ := r8 g0
        rw [w1, w2]
        have y1 := w3.1.1.2.2.2
        have y2 := w3.2.2.2.2.2
        exact ⟨by rw [f1.1 97 5 (by omega) (by omega)]; exact s5, by rw [f2.1 101 38 (by omega)]; exact t38, K0, by omega, fv, w4⟩
    by_cases q2 : 2 ≤ aq_K S n
    · rw [if_pos q2, if_pos q2]
      obtain ⟨S', T', v, f1, f2, f3, f4⟩ := aq_sum (E := E) (B := B) (c := c) (c' := c') (k := k) (s := s) (W := W) (T0 := T) hE hk hM 6 0 e f (rd_s S1) (rd_m T1) (by omega) (by omega) (by omega) (by omega) hA G2
      refine fin S' T' v _ _ f1 f2 (fun z => by omega) (by rw [f3, mm_cI_ok]) ?_
      rcases f4 with ⟨z1, z2, z3, z4, z5⟩ | ⟨z1, z2⟩
      · refine Or.inl ⟨z1, z2, fun hk1 => ?_⟩
        have z := z5 hk1
        rw [e4] at z
        exact aq_C_t z (by omega)
      · exact Or.inr ⟨z1, z2⟩
    · rw [if_neg q2, if_neg q2]
      obtain ⟨S', T', v, f1, f2, f3, fv, f4⟩ := (aq_FTs (E := E) (B := B) (c := c) (c' := c') (k := k) (s := s) (W := W) (T0 := T) hE hk hM 6 0 (by omega) (by omega)).2 e f (rd_s S1) (rd_m T1) (by omega) (by omega) hA G2
      refine fin S' T' v _ _ f1 f2 (fun z => fv) ?_ ?_
      · rw [f3, mm_cI_ok]
        rcases fv with r | r
        · rw [r, mm_br_t rfl]
        · rw [r, mm_br_eq (by omega) (by omega) (by omega) (by omega), if_neg (by omega)]
      rcases f4 with ⟨z1, z2, z3, z4, z5⟩ | ⟨z1, z2⟩
      · refine Or.inl ⟨z1, z2, fun hk1 => ?_⟩
        have z := z5 hk1
        rw [e4] at z
        exact aq_C_t z (by omega)
      · exact Or.inr ⟨z1, z2⟩
end
