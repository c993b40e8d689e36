/-! PIN, SUPPLY -/
section
variable {E : mm_E} {d B : Nat} {S : mm_S} {k : Nat} {c : mm_N}
theorem m_pinX {V : mm_S} (s v x : Int) (o4 : Option Value) (cl : mm_F) (m : Nat) (x1 : 0 < x) (x2 : x ≤ 2) : mm_r176_28 E cl (m + 1) (mm_ad B 101) (mm_i s) (mm_i v) o4 (mm_ad B 101) (mm_i x) (mm_hp B V c) = mm_oI 0 (mm_hp B (V.sI 101 0 x) c) := by
  rw [mm_e176_28]
  simp (disch := omega) only [mm_ptM, mm_gs, mm_br_le]
  rw [if_neg (by omega)]
theorem i_pin (h : iv S k) (hE : pp_OE E B) (hd : 6 ≤ d) {s v : Int} (hs : iv_n s) (hv : iv_n v) : iv_ok E B d S k 112 [.ref (mm_ad B 0), .int (mm_i s), .int (mm_i v)] 176 [.ref (mm_ad B 101), .int (mm_i s), .int (mm_i v)] iv_c2 := by
  have nn := iv_nn h
  have eN := iv_N h
  obtain ⟨e, rfl⟩ : ∃ e, d = e + 1 := ⟨d - 1, by omega⟩
  have hR := h.2.1.1
  have h2 := h.2.2.2.2.2.2.2.2.2.2.1
  have m6 : pp_ml 6 = -1 := by decide
  have o6 : pp_mo 6 = 119 := by decide
  by_cases ps : 0 ≤ s ∧ s < S.I 3 10
  · by_cases q : -1 ≤ v ∧ v ≤ 119
    · intro c
      obtain ⟨T, t1, t2⟩ := iv_cT (E := E) (d := e) (B := B) (c := c) (w := 6) h hE (by omega) ps.1 ps.2 (by omega) (by omega) hv (by omega) (by omega)
      have c4 := t2.2.2.2.1
      have c5 := t2.2.2.2.2.1
      refine ⟨T, Or.inl ⟨S.A 102 (3 + 7 * s + 6), mm_v112 (by omega) (fun F e' hF he => ?_), fun o => ?_⟩⟩
      · obtain rfl : e = e' := by omega
        rw [mm_e112_0, iv_CS h (by omega) hs, if_pos ps, t1, mm_cI_ok]
      · have v2 : (T.sL 123 o).A 102 = S.A 102 := c5 102 (by omega) (by omega)
        have vN : (T.sL 123 o).A 102 0 = S.I 3 10 := by rw [v2]; exact eN
        obtain ⟨P, p1, p2, p3⟩ := iv_keep (E := E) (d := e) (B := B) (c := c) (V := (T.sL 123 o).sI 101 0 0) (by omega) h (by rw [mm_gI_ne (by omega)]; exact c4 101 4 (by omega) (by omega)) v2 (c5 104 (by omega) (by omega))
        refine ⟨((((T.sL 123 o).sI 101 0 0).sI 101 4 (min (S.I 36 3 + 1) 20)).sA 104 P).sA 102 (mm_u (S.A 102) (3 + 7 * s + 6) v), mm_v176 (by omega) (fun F e' hF he => ?_), iv_mU h t2 o p1 p2 rfl (by omega) (iv_rowu hR ps.1 (by omega) (by omega) (by omega) (by omega) (Or.inl (by omega))) (iv_stT hR h2 ps.1 (by omega) (by omega) (by omega)) (iv_R2u h2 ps.1 (by omega) (by omega) (by omega))⟩
        obtain rfl : e = e' := by omega
        rw [mm_e176_0, iv_MSr (by omega) (by omega) hs, if_pos (by omega), iv_MI (by omega) hv (by omega) (by omega), if_pos q, mm_e176_28]
        simp (disch := omega) only [mm_ptM, mm_gs, mm_br_le]
        rw [if_pos (by omega), p3, mm_cV_ok, c_of (by omega) ps.1 (by omega) (by omega) (by omega), mm_cI_ok, mm_e176_52]
        simp (disch := omega) only [mm_hm]
        simp (disch := omega) only [mm_ptM, mm_gs, mm_gA_ne]
        rw [c5 102 (by omega) (by omega)]
    · refine iv_thr h 1 (by decide) (fun c => mm_v112 (by omega) (fun F e' hF he => ?_)) (fun c => ⟨0, mm_v176 (by omega) (fun F e' hF he => ?_)⟩)
      · rw [mm_e112_0, iv_CS h (by omega) hs, if_pos ps, iv_cTx h hE (by omega) (by omega) (by omega) hv (by omega), iv_Ith]
      · rw [mm_e176_0, iv_MS0 h (by omega) hs, if_pos ps, iv_MI (by omega) hv (by omega) (by omega), if_neg q]
        exact m_pinX s v 2 none _ _ (by omega) (by omega)
  · refine iv_thr h 0 (by decide) (fun c => mm_v112 (by omega) (fun F e' hF he => ?_)) (fun c => ⟨0, mm_v176 (by omega) (fun F e' hF he => ?_)⟩)
    · rw [mm_e112_0, iv_CS h (by omega) hs, if_neg ps]
    · rw [mm_e176_0, iv_MS0 h (by omega) hs, if_neg ps]
      exact m_pinX s v 1 none _ _ (by omega) (by omega)
/-- the class's isStage, asked -/
theorem iv_CI (h : iv S k) (hd : 1 ≤ d) {s : Int} (hs : iv_n s) (X Y : mm_H → mm_R) : mm_cI [] (mm_ev E d 132 [.ref (mm_ad B 0), .int (mm_i s)] (mm_hp B S c)) (fun w H => mm_br (w = mm_i 0) (X H) (Y H)) = if 0 ≤ s ∧ s < S.I 3 10 then Y (mm_hp B S c) else X (mm_hp B S c) := by
  rw [c_isStage hd hs.1 hs.2 (iv_nn h), mm_cI_ok, mm_br_b1]
  by_cases p : 0 ≤ s ∧ s < S.I 3 10
  · rw [if_pos p, if_pos (decide_eq_true p)]
  · rw [if_neg p, if_neg (fun z => p (of_decide_eq_true z))]
/-- a row with one supply more -/
def iv_jn (f : Int → Int) (i j : Int) : Int → Int := mm_u (mm_u (mm_u f (159 + 2 * f 2) i) (159 + 2 * f 2 + 1) j) 2 (f 2 + 1)
theorem iv_jn_ne {f : Int → Int} {i j x : Int} (h2 : x ≠ 2) (h3 : x ≠ 159 + 2 * f 2) (h4 : x ≠ 159 + 2 * f 2 + 1) : iv_jn f i j x = f x := by
  unfold iv_jn
  rw [mm_u_ne h2, mm_u_ne h4, mm_u_ne h3]
theorem iv_jn_aP {f : Int → Int} {i j : Int} (h0 : 0 ≤ f 2) : pp_aP i j f (iv_jn f i j) := by
  refine ⟨mm_u_eq _ _ _, fun l l0 l1 => ⟨iv_jn_ne (by omega) (by omega) (by omega), iv_jn_ne (by omega) (by omega) (by omega)⟩, ?_, ?_⟩
  · unfold iv_jn
    rw [mm_u_ne (by omega), mm_u_ne (by omega), mm_u_eq]
  · unfold iv_jn
    rw [mm_u_ne (by omega), mm_u_eq]
theorem iv_jn_RO {f : Int → Int} {i j : Int} (hR : pp_RO f) (i1 : 0 ≤ i) (i2 : i < f 0) (j1 : 0 ≤ j) (j2 : j < f 0) (hc : ¬ pp_cn (pp_Wr f) i j) : pp_RO (iv_jn f i j) := by
  have m := hR.2.2.1
  have a := iv_jn_aP (f := f) (i := i) (j := j) (by omega)
  refine pp_RO_edge hR (iv_jn_ne (by omega) (by omega) (by omega)) (iv_jn_ne (by omega) (by omega) (by omega)) a.1 a.2.1 a.2.2.1 a.2.2.2 i1 i2 j1 j2 hc (fun t t0 t1 => ?_)
  have n := hR.1
  have q := hR.2.2.2.2.1 t t0 t1
  unfold pp_tR at q ⊢
  dsimp only at q ⊢
  rw [iv_jn_ne (by omega) (by omega) (by omega), iv_jn_ne (by omega) (by omega) (by omega), iv_jn_ne (by omega) (by omega) (by omega), iv_jn_ne (by omega) (by omega) (by omega), iv_jn_ne (by omega) (by omega) (by omega), iv_jn_ne (by omega) (by omega) (by omega), iv_jn_ne (by omega) (by omega) (by omega)]
  exact q
theorem i_supply (h : iv S k) (hd : 5 ≤ d) {s t : Int} (hs : iv_n s) (ht : iv_n t) : iv_ok0 E B d S k 111 [.ref (mm_ad B 0), .int (mm_i s), .int (mm_i t)] 175 [.ref (mm_ad B 101), .int (mm_i s), .int (mm_i t)] := by
  have nn := iv_nn h
  have eN := iv_N h
  obtain ⟨e, rfl⟩ : ∃ e, d = e + 1 := ⟨d - 1, by omega⟩
  have hR := h.2.1.1
  have hQ := h.2.1.2.1
  have h2 := h.2.2.2.2.2.2.2.2.2.2.1
  have no : ∀ (c : mm_N), mm_ev E (e + 1) 111 [.ref (mm_ad B 0), .int (mm_i s), .int (mm_i t)] (mm_hp B S c) = mm_oI (-1) (mm_hp B S c) → mm_ev E (e + 1) 175 [.ref (mm_ad B 101), .int (mm_i s), .int (mm_i t)] (mm_hp B S c) = mm_oI (-1) (mm_hp B (S.sI 101 0 0) c) → ∃ S1 S2 : mm_S, ∃ v : Int, mm_ev E (e + 1) 111 [.ref (mm_ad B 0), .int (mm_i s), .int (mm_i t)] (mm_hp B S c) = mm_oI v (mm_hp B S1 c) ∧ mm_ev E (e + 1) 175 [.ref (mm_ad B 101), .int (mm_i s), .int (mm_i t)] (mm_hp B S1 c) = mm_oI v (mm_hp B S2 c) ∧ iv S2 (k + 1) := fun c a b => ⟨S, S.sI 101 0 0, -1, a, b, iv_up (iv_sc h 0) (by omega)⟩
  intro c
  by_cases ps : 0 ≤ s ∧ s < S.I 3 10
  · by_cases pt : 0 ≤ t ∧ t < S.I 3 10
    · have eW : pp_Wf (S.I 3 10) (S.A (3 + 3)) = pp_Wr (S.A 102) := pp_EQ_W hR hQ
      have hNK := pp_EQ_NK hR hQ
      have hGK := pp_EQ_GK hR hQ
      have hp := c_inOnePart (E := E) (d := e) (B := B) (c := c) (S := S) (a := 3) (by omega) (by omega) hNK hGK ps.1 ps.2 pt.1 pt.2
      rw [eW] at hp
      by_cases q : pp_cb (pp_Wr (S.A 102)) s t = true
      · obtain ⟨z, z1, z2, z3⟩ := m_partOf (E := E) (d := e) (B := B) (c := c) (S := S.sI 101 0 0) (r := 102) (x := s) rfl (by omega) hR ps.1 (by show s < S.A 102 0; omega)
        refine no c (mm_v111 (by omega) (fun F e' hF he => ?_)) (mm_v175 (by omega) (fun F e' hF he => ?_))
        · obtain rfl : e = e' := by omega
          rw [mm_e111_0, iv_CI h (by omega) hs, if_pos ps, iv_CI h (by omega) ht, if_pos pt]
          simp (disch := omega) only [mm_ptP]
          rw [hp, mm_cI_ok, mm_br_b1, if_pos q]
        · obtain rfl : e = e' := by omega
          rw [mm_e175_0]
          simp (disch := omega) only [mm_ptM]
          rw [iv_MS h (by omega) hs, if_pos ps, iv_MS h (by omega) ht, if_pos pt]
          simp (disch := omega) only [mm_ptM]
          rw [z3, mm_cI_ok, c_isOf (by omega) z1.1 pt.1 (by omega), mm_cI_ok, mm_br_b1, z2 t pt.1]
          rw [if_pos (show pp_cb (pp_Wr ((S.sI 101 0 0).A 102)) s t = true from q)]
      · have hcn : ¬ pp_cn (pp_Wr (S.A 102)) s t := fun z => q (pp_cb_t.mpr z)
        have hG := iv_jn_RO hR ps.1 (by omega) pt.1 (by omega) hcn
        have mm := hR.2.2.1
        have aP := iv_jn_aP (f := S.A 102) (i := s) (j := t) (by omega)
        have g0 : iv_jn (S.A 102) s t 0 = S.A 102 0 := iv_jn_ne (by omega) (by omega) (by omega)
        have g1 : iv_jn (S.A 102) s t 1 = S.A 102 1 := iv_jn_ne (by omega) (by omega) (by omega)
        have gT : pp_sT (S.A 102 0) (S.A 102) (iv_jn (S.A 102) s t) := fun s w s0 s1 w0 w1 => iv_jn_ne (by omega) (by omega) (by omega)
        have gN : pp_sN (S.A 102 0) (S.A 102) (iv_jn (S.A 102) s t) := fun s w s0 s1 w0 w1 => iv_jn_ne (by omega) (by omega) (by omega)
        have hb : mm_bt (mm_sup (S.A 102) t) s = false := by
          cases hz : mm_bt (mm_sup (S.A 102) t) s
          · rfl
          · have w : pp_Wr (S.A 102) s t = true := by rw [pp_Wr_bt (by omega)]; exact hz
            exact absurd (fun P p1 p2 => p2 s t (Or.inl w) p1) hcn
        have b3 := hNK.2.2.1 t pt.1 (by omega)
        have b4 := hNK.2.2.2.1 s ps.1 (by omega)
        obtain ⟨V, hV⟩ : ∃ V, V = (S.sA (3 + 3) (mm_u (S.A (3 + 3)) t (mm_ior (S.A (3 + 3) t) (mm_pw s)))).sA (3 + 4) (mm_u (S.A (3 + 4)) s (mm_ior (S.A (3 + 4) s) (mm_pw t))) := ⟨_, rfl⟩
        have cj := c_join (E := E) (d := e) (B := B) (S := S) (c := c) (a := 3) (i := s) (j := t) (by omega) (by omega) ps.1 (by omega) pt.1 (by omega) b3.1 b4.1
        rw [← hV] at cj
        have qV : pp_EQ V 3 (iv_jn (S.A 102) s t) := pp_EQ_join (S := S) (T := V) hR hQ (by rw [hV]; rfl) (by rw [hV]; rfl) (by rw [hV]; rfl) (by rw [hV]; rfl) ps.1 (by omega) pt.1 (by omega) (by rw [hV]; rfl) (by rw [hV]; rfl) g0 g1 aP gT gN
        have l13 := iv_13 h
        obtain ⟨T, t1, t2, t3, t4, t5, t6⟩ := iv_setl (E := E) (d := e) (B := B) (S := V) (c := c) (by omega) hG qV (by rw [hV]; exact l13)
        have hc : iv_cP S T (iv_jn (S.A 102) s t) := by
          refine ⟨t2, t3, by rw [t4, hV]; rfl, fun x k hx => by rw [t5 x k (by omega), hV]; rfl, fun x hx => ?_, by rw [t6 8 (by omega), hV]; rfl, by rw [t6 9 (by omega), hV]; rfl⟩
          rw [t6 x (by omega), hV, mm_gA_ne (by omega), mm_gA_ne (by omega)]
        obtain ⟨U, u1, u2⟩ := iv_note (E := E) (d := e) (B := B) (c := c) (kd := 9) (st := s) (ws := t) (by omega) h hc
        have uN := pp_EQ_NK hG u2.2.1
        have c4 := u2.2.2.2.1
        have c5 := u2.2.2.2.2.1
        obtain ⟨P, p1, p2, p3⟩ := iv_keep (E := E) (d := e) (B := B) (c := c) (V := U.sI 101 0 0) (by omega) h (by rw [mm_gI_ne (by omega)]; exact c4 101 4 (by omega) (by omega)) (c5 102 (by omega) (by omega)) (c5 104 (by omega) (by omega))
        have e102 : U.A 102 = S.A 102 := c5 102 (by omega) (by omega)
        refine ⟨U, (((U.sI 101 0 0).sI 101 4 (min (S.I 36 3 + 1) 20)).sA 104 P).sA 102 (iv_jn (S.A 102) s t), S.A 102 2 + 1, mm_v111 (by omega) (fun F e' hF he => ?_), mm_v175 (by omega) (fun F e' hF he => ?_), ?_⟩
        · obtain rfl : e = e' := by omega
          rw [mm_e111_0, iv_CI h (by omega) hs, if_pos ps, iv_CI h (by omega) ht, if_pos pt]
          simp (disch := omega) only [mm_ptP]
          rw [hp, mm_cI_ok, mm_br_b1, if_neg q]
          simp (disch := omega) only [mm_ptP]
          rw [cj, mm_cV_ok]
          simp (disch := omega) only [mm_ptP]
          rw [t1, mm_cV_ok, mm_e111_46]
          simp (disch := omega) only [mm_ptP]
          rw [u1, mm_cV_ok]
          simp (disch := omega) only [mm_ptP]
          rw [c_supplyCount (by omega) (by omega) uN.1 uN.2.2.1, mm_cI_ok]
          have e1 : pp_sm (fun s => mm_pc (U.A (3 + 3) s)) (U.I 3 10).toNat = S.A 102 2 + 1 := by
            have z := hG.2.2.2.2.2.2.2.1
            rw [aP.1] at z
            rw [z, u2.2.1.1]
            have hg := hG.1
            refine pp_sm_congr _ (fun i i0 i1 => ?_)
            have y := (u2.2.1.2.2.1 i i0 (by omega)).1
            rw [y]
          rw [e1]
        · obtain rfl : e = e' := by omega
          obtain ⟨z, z1, z2, z3⟩ := m_partOf (E := E) (d := e) (B := B) (c := c) (S := U.sI 101 0 0) (r := 102) (x := s) rfl (by omega) (by show pp_RO (U.A 102); rw [e102]; exact hR) ps.1 (by show s < U.A 102 0; rw [e102]; omega)
          rw [mm_e175_0]
          simp (disch := omega) only [mm_ptM]
          rw [iv_MSr (by show 0 ≤ U.A 102 0 ∧ U.A 102 0 ≤ 12; rw [e102]; omega) (by omega) hs, if_pos (by show 0 ≤ s ∧ s < U.A 102 0; rw [e102]; omega), iv_MSr (by show 0 ≤ U.A 102 0 ∧ U.A 102 0 ≤ 12; rw [e102]; omega) (by omega) ht, if_pos (by show 0 ≤ t ∧ t < U.A 102 0; rw [e102]; omega)]
          simp (disch := omega) only [mm_ptM]
          rw [z3, mm_cI_ok, c_isOf (by omega) z1.1 pt.1 (by omega), mm_cI_ok, mm_br_b1, z2 t pt.1]
          rw [if_neg (show ¬ pp_cb (pp_Wr ((U.sI 101 0 0).A 102)) s t = true by show ¬ pp_cb (pp_Wr (U.A 102)) s t = true; rw [e102]; exact q), p3, mm_cV_ok, mm_e175_42]
          obtain ⟨K, hK⟩ : ∃ K, K = ((U.sI 101 0 0).sI 101 4 (min (S.I 36 3 + 1) 20)).sA 104 P := ⟨_, rfl⟩
          rw [← hK]
          have kA : K.A 102 = S.A 102 := by rw [hK]; exact e102
          have mj := m_join (E := E) (d := e) (B := B) (S := K) (c := c) (r := 102) (i := s) (j := t) (by omega) rfl (by rw [kA]; omega) (by rw [kA]; omega)
          rw [kA] at mj
          have mj : mm_ev E e 154 [.ref (mm_ad B 102), .int (mm_i s), .int (mm_i t)] (mm_hp B K c) = mm_oV (mm_hp B (K.sA 102 (iv_jn (S.A 102) s t)) c) := mj
          simp (disch := omega) only [mm_ptM]
          rw [mj, mm_cV_ok]
          simp (disch := omega) only [mm_ptM, mm_gs]
          rw [aP.1]
        · refine iv_aok h u2 (fun x k hx => ?_) (fun x x2 x4 x5 x6 => ?_) (mm_gs.1 _ _ _ _) p1 p2 rfl hG (Or.inr (Or.inr (Or.inr ⟨rfl, g0, g1.symm, aP, by omega, by omega, hb, gT, gN⟩))) (fun t t0 t1 => ?_) ?_
          · show ((U.sI 101 0 0).sI 101 4 _).I x k = _
            rw [mm_gI_ne (by omega), mm_gI_ne (by omega)]
          · rw [mm_gA_ne x2, mm_gA_ne x4]
            rfl
          · rw [g0] at t1
            rw [iv_jn_ne (by omega) (by omega) (by omega)]
            exact h2 t t0 t1
          · rw [g0, eN]
            have a5 : U.A 105 = S.A 105 := c5 105 (by omega) (by omega)
            have a6 : U.A 106 = S.A 106 := c5 106 (by omega) (by omega)
            show iv_TD _ _ (U.A 105) _ (U.A 106)
            rw [a5, a6]
            exact h.2.2.1
    · refine no c (mm_v111 (by omega) (fun F e' hF he => ?_)) (mm_v175 (by omega) (fun F e' hF he => ?_))
      · rw [mm_e111_0, iv_CI h (by omega) hs, if_pos ps, iv_CI h (by omega) ht, if_neg pt]
      · rw [mm_e175_0]
        simp (disch := omega) only [mm_ptM]
        rw [iv_MS h (by omega) hs, if_pos ps, iv_MS h (by omega) ht, if_neg pt]
  · refine no c (mm_v111 (by omega) (fun F e' hF he => ?_)) (mm_v175 (by omega) (fun F e' hF he => ?_))
    · rw [mm_e111_0, iv_CI h (by omega) hs, if_neg ps]
    · rw [mm_e175_0]
      simp (disch := omega) only [mm_ptM]
      rw [iv_MS h (by omega) hs, if_neg ps]
end
