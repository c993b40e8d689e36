/-! EVEN, BUDGET, FRONTIER -/
section
variable {E : mm_E} {d B : Nat} {S : mm_S} {k : Nat}
theorem iv_ior21 {x p : Int} (x0 : 0 ≤ x) (x1 : x < 2097152) (p0 : 0 ≤ p) (p1 : p ≤ 20) : 0 ≤ mm_ior x (mm_pw p) ∧ mm_ior x (mm_pw p) < 2097152 := by
  refine ⟨mm_ior_nn _ _, ?_⟩
  have a : x.toNat < 2 ^ 21 := by omega
  have b : (mm_pw p).toNat < 2 ^ 21 := by
    have z : (mm_pw p).toNat = 2 ^ p.toNat := rfl
    rw [z]
    exact Nat.pow_lt_pow_right (by omega) (by omega)
  have c := Nat.or_lt_two_pow a b
  unfold mm_ior
  omega
theorem iv_evT (h : iv S k) (hd : 5 ≤ d) (he : S.I 0 11 = S.I 3 12) {p : Int} (p0 : 0 ≤ p) (p1 : p ≤ 20) (c : mm_N) (n : Nat) (hn : 90 ≤ n) : ∃ T v, mm_cI [] (mm_ev E d 61 [.int (mm_i (S.I 0 10)), .int (mm_i p)] (mm_hp B S c)) (fun v_6 h_5 => mm_br (v_6 = mm_i 0) (mm_r144_41 E (mm_ev E d) n (mm_ad B 0) (mm_i p) none h_5) (mm_r144_126 E (mm_ev E d) n (mm_ad B 0) (mm_i p) none h_5)) = mm_oI v (mm_hp B T c) ∧ iv_bp (iv_er (S.A 102) p) v ∧ iv T k ∧ T.A 102 = S.A 102 ∧ T.I 3 10 = S.I 3 10 := by
  have hv := h.2.2.2.2.2.2.1
  have nn := iv_nn h
  have eN := iv_N h
  have hR := h.2.1.1
  obtain ⟨n, rfl⟩ : ∃ q, n = q + 1 := ⟨n - 1, by omega⟩
  rw [c_has (by omega) hv.1.1 p0 (by omega), mm_cI_ok, mm_br_b1]
  by_cases b : mm_bt (S.I 0 10) p = true
  · rw [if_pos b, mm_e144_126]
    simp (disch := omega) only [mm_ptP]
    exact ⟨S, _, rfl, hv.2.2 he p p0 p1 b, h, rfl, rfl⟩
  · rw [if_neg b, mm_e144_41]
    obtain ⟨T, t1, t2, t3, t4, t5⟩ := iv_draft (E := E) (d := d) (B := B) h (by omega) c
    have tn : T.I 14 10 = S.A 102 0 := t3.1
    obtain ⟨m, m1, m2⟩ := l_evC (E := E) (d := d) (B := B) (T := T) (p := p) (n := S.A 102 0) (by omega) (by omega) tn t2.1.2.2.2.1 c (S.A 102 0).toNat 0 n (T.A 15) (by omega) (by omega)
    rw [pp_sA_id] at m2
    obtain ⟨q1, q2⟩ := iv_etEQ (T := T) (q := S.A 5) (f := S.A 102) (p := p) hR p0 p1 t3 t2
    obtain ⟨U, hU⟩ : ∃ U, U = T.sA 15 (iv_et (T.A 18) (S.A 102 0) p 0 (T.A 15)) := ⟨_, rfl⟩
    have m2 : mm_r144_54 E (mm_ev E d) n (mm_ad B 0) (mm_i p) (mm_i 0) (mm_hp B T c) = mm_r144_54 E (mm_ev E d) m (mm_ad B 0) (mm_i p) (mm_i (S.A 102 0)) (mm_hp B U c) := by rw [hU]; exact m2
    rw [← hU] at q1 q2
    have uI : ∀ x k, x ≠ 14 → U.I x k = S.I x k := fun x k hx => by rw [hU]; exact t4 x k hx
    have uA : ∀ x, ¬ (15 ≤ x ∧ x ≤ 24) → U.A x = S.A x := fun x hx => by
      rw [hU, mm_gA_ne (by omega)]
      exact t5 x hx
    have un : U.I 14 10 = S.A 102 0 := by rw [hU]; exact tn
    obtain ⟨V, v, v1, v2, v3⟩ := iv_cL14 (E := E) (d := d) (B := B) (S := U) hd (iv_er_RO hR p0 p1) q1 q2 c
    have iU : iv U k := iv_dr h (fun x k hx => uI x k (by unfold iv_rI at hx; omega)) (fun x hx x1 x2 => uA x (by unfold iv_rA at hx; omega)) q2.1.2.2.2.2 q2.2.2.2.2.2.2.2
    have iV := iv_FR iU v1
    have vI : ∀ x k, x ≠ 14 → V.I x k = S.I x k := fun x k hx => by rw [v1.1]; exact uI x k hx
    have vA : ∀ x, ¬ (15 ≤ x ∧ x ≤ 24) → x ≠ 55 → x ≠ 56 → V.A x = S.A x := fun x hx h5 h6 => by rw [v1.2.1 x h5 h6]; exact uA x hx
    obtain ⟨m, rfl⟩ : ∃ q, m = q + 2 := ⟨m - 2, by omega⟩
    have r := iv_ior21 hv.1.1 hv.1.2 p0 p1
    refine ⟨(V.sA 100 (mm_u (V.A 100) p v)).sI 0 10 (mm_ior (S.I 0 10) (mm_pw p)), v, ?_, v2, iv_evs iV (fun x k hx hn => ?_) (fun x hx x1 => mm_gA_ne x1) ⟨?_, ?_, fun _ i i0 i1 ib => ?_⟩, ?_, ?_⟩
    · simp (disch := omega) only [mm_ptP]
      rw [t1, mm_cV_ok, m2, mm_e144_54]
      simp (disch := omega) only [mm_ptP, mm_ptN]
      rw [un]
      simp (disch := omega) only [mm_br_le]
      rw [if_pos (by omega), v3, mm_cI_ok]
      have v10 : (V.sA 100 (mm_u (V.A 100) p v)).I 0 10 = S.I 0 10 := vI 0 10 (by omega)
      simp (disch := omega) only [mm_ptP]
      rw [v10, mm_i_shl p0 (by omega), mm_i_or hv.1.1 (mm_pw_nn p)]
      simp (disch := omega) only [mm_ptP]
      rw [mm_e144_126]
      simp (disch := omega) only [mm_ptP]
      have z : ((V.sA 100 (mm_u (V.A 100) p v)).sI 0 10 (mm_ior (S.I 0 10) (mm_pw p))).A 100 = mm_u (V.A 100) p v := mm_gs.2.2.2.2.2.2.2.2.1 _ _ _
      rw [z, mm_u_eq]
    · show (V.sI 0 10 _).I x k = _
      exact mm_gI_ne (by omega)
    · have z : ((V.sA 100 (mm_u (V.A 100) p v)).sI 0 10 (mm_ior (S.I 0 10) (mm_pw p))).I 0 10 = mm_ior (S.I 0 10) (mm_pw p) := mm_gs.1 _ _ _ _
      rw [z]; exact r
    · have z : ((V.sA 100 (mm_u (V.A 100) p v)).sI 0 10 (mm_ior (S.I 0 10) (mm_pw p))).I 0 11 = V.I 0 11 := mm_gI_ne (by omega)
      have z2 : ((V.sA 100 (mm_u (V.A 100) p v)).sI 0 10 (mm_ior (S.I 0 10) (mm_pw p))).I 3 12 = V.I 3 12 := mm_gI_ne (by omega)
      rw [z, z2, vI 0 11 (by omega), vI 3 12 (by omega)]
      exact hv.2.1
    · have z : ((V.sA 100 (mm_u (V.A 100) p v)).sI 0 10 (mm_ior (S.I 0 10) (mm_pw p))).I 0 10 = mm_ior (S.I 0 10) (mm_pw p) := mm_gs.1 _ _ _ _
      have z100 : ((V.sA 100 (mm_u (V.A 100) p v)).sI 0 10 (mm_ior (S.I 0 10) (mm_pw p))).A 100 = mm_u (V.A 100) p v := mm_gs.2.2.2.2.2.2.2.2.1 _ _ _
      have z102 : ((V.sA 100 (mm_u (V.A 100) p v)).sI 0 10 (mm_ior (S.I 0 10) (mm_pw p))).A 102 = S.A 102 := vA 102 (by omega) (by omega) (by omega)
      rw [z, mm_bt_or, mm_bt_pw p0 i0] at ib
      rw [z100, z102]
      by_cases ip : i = p
      · rw [ip, mm_u_eq]; exact v2
      · rw [mm_u_ne ip, vA 100 (by omega) (by omega) (by omega)]
        rw [decide_eq_false ip, Bool.or_false] at ib
        exact hv.2.2 he i i0 i1 ib
    · exact vA 102 (by omega) (by omega) (by omega)
    · have z2 : ((V.sA 100 (mm_u (V.A 100) p v)).sI 0 10 (mm_ior (S.I 0 10) (mm_pw p))).I 3 10 = V.I 3 10 := mm_gI_ne (by omega)
      rw [z2, vI 3 10 (by omega)]
theorem iv_evC (h : iv S k) (hk : k ≤ 1000) (hd : 6 ≤ d) {p : Int} (p0 : 0 ≤ p) (p1 : p ≤ 20) (c : mm_N) : ∃ T v, mm_ev E d 144 [.ref (mm_ad B 0), .int (mm_i p)] (mm_hp B S c) = mm_oI v (mm_hp B T c) ∧ iv_bp (iv_er (S.A 102) p) v ∧ iv T k ∧ T.A 102 = S.A 102 ∧ T.I 3 10 = S.I 3 10 := by
  obtain ⟨e, rfl⟩ : ∃ e, d = e + 1 := ⟨d - 1, by omega⟩
  obtain ⟨F, hF, he⟩ := mm_w144 E e B S c (mm_i p)
  have hv := h.2.2.2.2.2.2.1
  have hv1 := hv.2.1
  have hs := h.2.2.2.2.2.2.2.2.2.1
  rw [he, mm_e144_0]
  simp (disch := omega) only [mm_ptP, mm_ptN, mm_br_eq]
  by_cases q : S.I 0 11 = S.I 3 12
  · rw [if_pos q]
    exact iv_evT h (by omega) q p0 p1 c (F + 99) (by omega)
  · rw [if_neg q]
    have i1 : iv ((S.sI 0 11 (S.I 3 12)).sI 0 10 0) k := iv_evs h (fun x k hx hn => by rw [mm_gI_ne (by omega), mm_gI_ne (by omega)]) (fun _ _ _ => rfl) ⟨⟨by show (0 : Int) ≤ 0; omega, by show (0 : Int) < 2097152; omega⟩, ⟨by show 0 ≤ S.I 3 12; omega, by show S.I 3 12 ≤ S.I 3 12; omega⟩, fun _ i i0 i1 ib => by
      have z : ((S.sI 0 11 (S.I 3 12)).sI 0 10 0).I 0 10 = 0 := mm_gs.1 _ _ _ _
      rw [z, mm_bt_0] at ib
      cases ib⟩
    exact iv_evT (S := (S.sI 0 11 (S.I 3 12)).sI 0 10 0) i1 (by omega) rfl p0 p1 c (F + 99) (by omega)
theorem i_even (h : iv S k) (hk : k ≤ 1000) (hd : 22 ≤ d) {p : Int} (hp : iv_n p) : iv_ok E B d S k 120 [.ref (mm_ad B 0), .int (mm_i p)] 209 [.ref (mm_ad B 101), .int (mm_i p)] iv_c3 := by
  have w1 := hp.1
  have w2 := hp.2
  obtain ⟨e, rfl⟩ : ∃ e, d = e + 1 := ⟨d - 1, by omega⟩
  by_cases q : 0 ≤ p ∧ p ≤ 20
  · intro c
    obtain ⟨T, v, t1, t2, t3, t4, t5⟩ := iv_evC (E := E) (d := e) (B := B) h hk (by omega) q.1 q.2 c
    refine ⟨T, Or.inl ⟨v, mm_v120 (by omega) (fun F e' hF he => ?_), fun o => ?_⟩⟩
    · obtain rfl : e' = e := by omega
      rw [mm_e120_0]
      simp (disch := omega) only [mm_br_lt, mm_br_le]
      rw [if_neg (by omega), if_pos q.2, t1, mm_cI_ok]
    · obtain ⟨U, u, u1, u2, u3, u4, u5, u6, u7, u8⟩ := iv_evM (E := E) (d := e) (B := B) (S := (T.sL 123 o).sI 101 0 0) (iv_sc (iv_sL t3 o) 0) (by omega) q.1 q.2 c
      have u2 : iv_bp (iv_er (T.A 102) p) u := u2
      rw [t4] at u2
      refine ⟨U, mm_v209 (by omega) (fun F e' hF he => ?_), by rw [u6]; exact mm_gs.1 _ _ _ _, by rw [u5]; simp only [mm_gs], iv_up u4 (by omega)⟩
      obtain rfl : e' = e := by omega
      rw [mm_e209_0]
      simp (disch := omega) only [mm_ptM]
      rw [iv_MI (by omega) hp (by omega) (by omega), if_pos q, u1, mm_cI_ok, iv_bp_one t2 u2]
  · refine iv_thr h 1 (by decide) (fun c => mm_v120 (by omega) (fun F e hF he => ?_)) (fun c => ⟨0, mm_v209 (by omega) (fun F e hF he => ?_)⟩)
    · rw [mm_e120_0]
      simp (disch := omega) only [mm_br_lt, mm_br_le]
      by_cases z : p < 0
      · rw [if_pos z]; rfl
      · rw [if_neg z, if_neg (by omega)]; rfl
    · rw [mm_e209_0]
      simp (disch := omega) only [mm_ptM]
      rw [iv_MI (by omega) hp (by omega) (by omega), if_neg q, iv_MF (by omega)]; rfl
end
