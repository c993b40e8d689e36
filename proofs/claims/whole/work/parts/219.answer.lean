/-! ASK: the answer, class and model -/
theorem aq_mx (x y : Int32) (X : Int32 → mm_R) : mm_br (y ≤ x) (X x) (X y) = X (mm_mx x y) := by
  unfold mm_mx
  by_cases q : y ≤ x
  · have z : ¬ x < y := fun z => by
      rw [Int32.lt_iff_toInt_lt] at z
      rw [Int32.le_iff_toInt_le] at q
      omega
    rw [mm_br_t q, if_neg z]
  · have z : x < y := by
      rw [Int32.lt_iff_toInt_lt]
      rw [Int32.le_iff_toInt_le] at q
      omega
    rw [mm_br_f q, if_pos z]
theorem aq_mn (x y : Int32) (X : Int32 → mm_R) : mm_br (x ≤ y) (X x) (X y) = X (mm_mn x y) := by
  unfold mm_mn
  by_cases q : x ≤ y
  · have z : ¬ y < x := fun z => by
      rw [Int32.lt_iff_toInt_lt] at z
      rw [Int32.le_iff_toInt_le] at q
      omega
    rw [mm_br_t q, if_neg z]
  · have z : y < x := by
      rw [Int32.lt_iff_toInt_lt]
      rw [Int32.le_iff_toInt_le] at q
      omega
    rw [mm_br_f q, if_pos z]
/-- heaps that are one stay so with another stack -/
theorem gl_s99 {B : Nat} {S T : mm_S} {c : mm_N} (h : mm_hp B S c = mm_hp B T c) (st : Int → Int) : mm_hp B (S.sA 99 st) c = mm_hp B (T.sA 99 st) c := gl_of (fun a => by
  by_cases q : a = 99
  · have e : mm_sh 99 = some (.inr (.inl 64)) := rfl
    rw [q]
    unfold pp_cell
    rw [e]
    rfl
  · have e1 : pp_cell B (S.sA 99 st) a = pp_cell B S a := gl_cl (fun _ => rfl) (fun _ => rfl) (mm_gA_ne q) rfl
    have e2 : pp_cell B (T.sA 99 st) a = pp_cell B T a := gl_cl (fun _ => rfl) (fun _ => rfl) (mm_gA_ne q) rfl
    rw [e1, e2, gl_at h])
section
variable {E : mm_E} {d d' B : Nat} {S T X : mm_S} {c c' : mm_N} {s : Int} {W : Int → Int}
theorem c_workOut {v : Int32} (hd : 19 ≤ d) (h : aq_ok E B s W X) (hC : aq_C E B s W (X.A 98) 0 (X.I 97 4) v 0) (h4 : 0 ≤ X.I 97 4 ∧ X.I 97 4 ≤ 200) (st : Int → Int) : ∃ st', mm_ev E d 72 [.ref (mm_ad B 97), .int (mm_i s)] (mm_hp B (X.sA 99 st) c) = some (.inl (some (.int v)), mm_hp B (X.sA 99 st') c) := by
  obtain ⟨e, rfl⟩ : ∃ e, d = e + 1 := ⟨d - 1, by omega⟩
  obtain ⟨F, hF, hc⟩ := mm_w72 E e B (X.sA 99 st) c (mm_i s)
  obtain ⟨m, st', o', z1, z2, z3, z4⟩ := hC.2.2 (X.sA 99 st) e c 0 (F + 99) none (aq_ok_st h st) (fun i _ _ => rfl) (Int.le_refl _) h4.2 (by omega) (by omega) (by omega) (by omega)
  have e2 : (X.sA 99 st).sA 99 st' = X.sA 99 st' := by simp only [mm_gs]
  obtain ⟨m, rfl⟩ : ∃ q, m = q + 1 := ⟨m - 1, by omega⟩
  have i4 : (X.sA 99 st').I 97 4 = X.I 97 4 := rfl
  have a9 : (X.sA 99 st').A 99 = st' := mm_gs.2.2.2.2.2.2.2.2.1 _ _ _
  refine ⟨st', ?_⟩
  rw [hc, mm_e72_0, z4, e2, mm_e72_4]
  simp (disch := omega) only [mm_ptQ]
  rw [i4, mm_br_le (by omega) (by omega) (by omega) (by omega), if_pos (by omega), a9, z3]
/-- the class's state behind the reading -/
def aq_ed (S' : mm_S) : mm_S := (S'.sI 0 13 (-1)).sI 1 1 0
theorem aq_ed_hp (E : mm_E) {U V : mm_S} (hd : 1 ≤ d) (h : mm_hp B U c = mm_hp B V c) : mm_hp B (aq_ed U) c = mm_hp B (aq_ed V) c := by
  have e1 := c_endReading (E := E) (d := d) (B := B) (S := U) (c := c) hd (v := 0) (by omega)
  have e2 := c_endReading (E := E) (d := d) (B := B) (S := V) (c := c) hd (v := 0) (by omega)
  rw [if_pos rfl] at e1 e2
  rw [h, e2] at e1
  exact ((Prod.mk.inj (Option.some.inj e1)).2).symm
/-- one stage -/
theorem aq_one {n : Int} {d1 : Nat} {S' : mm_S} (hE : pp_OE E B) (n0 : 0 ≤ n) (n1 : n ≤ 200) (hB : ∀ i : Int, 0 ≤ i → i < n → T.A 122 i = S.A 2 i ∧ 0 ≤ S.A 2 i ∧ S.A 2 i ≤ 255) (hN : aq_N S (T.A 102) (T.A 105)) (s0 : 0 ≤ s) (s1 : s < S.I 3 10) (hd1 : 26 ≤ d1) (hd : 19 ≤ d) (hd' : 54 ≤ d') (h63 : mm_ev E d1 63 [.ref (mm_ad B 97), .int (mm_i n)] (mm_hp B S c) = mm_oI 0 (mm_hp B S' c)) (st : Int → Int) : ∃ (v : Int32) (T' : mm_S) (st' : Int → Int), mm_ev E d' 260 [.ref (mm_ad B 101), .int (mm_i n), .int (mm_i s), .int (mm_i 1)] (mm_hp B T c) = some (.inl (some (.int v)), mm_hp B T' c) ∧ aq_fT T T' ∧ T'.I 101 38 = aq_K S n ∧ (aq_K S n < 2 → v = mm_i 0 ∨ v = mm_i 1) ∧ mm_ev E d 72 [.ref (mm_ad B 97), .int (mm_i s)] (mm_hp B ((aq_ed S').sA 99 st) c) = some (.inl (some (.int v)), mm_hp B ((aq_ed S').sA 99 st') c) := by
  obtain ⟨S1, T1, g, v, r1, r2, r3, r4, r5, r6, r7, r8⟩ := aq_rd (E := E) (d := d1) (d' := d') (B := B) (S := S) (T := T) (c := c) (c' := c) (k := 1) (s := s) (W := aq_W S s) (n := n) hE (Or.inr rfl) n0 n1 hB (fun _ => aq_modW hE hN s0 s1) hd1 hd'
  rw [h63] at r1
  have e2 : mm_hp B S' c = mm_hp B S1 c := (Prod.mk.inj (Option.some.inj r1)).2
  have e1 : mm_i 0 = mm_i g := Value.int.inj (Option.some.inj (Sum.inl.inj (Prod.mk.inj (Option.some.inj r1)).1))
  rw [mm_i_inj (by omega) (by omega) (by omega) (by omega)] at e1
  obtain ⟨w1, w2, w3, w4, w5, w6⟩ := r8 e1.symm
  have eX := aq_ed_hp E (d := d) (by omega) e2
  have xI : ∀ l, (aq_ed S1).I 3 l = S.I 3 l := fun l => by
    unfold aq_ed
    rw [mm_gI_ne (by omega), mm_gI_ne (by omega), r3.1 3 l (by omega) (by omega)]
  have xA : ∀ x, x ≠ 98 → (aq_ed S1).A x = S.A x := fun x hx => r3.2 x hx
  have okX : aq_ok E B s (aq_W S s) (aq_ed S1) := by
    have z := aq_okW (E := E) (B := B) (s := s) (aq_N_c (U := aq_ed S1) xI (fun x x0 x1 => xA x (by omega)) hN) s0 (by rw [xI]; exact s1)
    have e : aq_W (aq_ed S1) s = aq_W S s := funext (fun m => aq_W_c xI (fun x x0 x1 => xA x (by omega)) s m)
    rw [e] at z
    exact z
  have x4 : (aq_ed S1).I 97 4 = S1.I 97 4 := by
    unfold aq_ed
    rw [mm_gI_ne (by omega), mm_gI_ne (by omega)]
  obtain ⟨st', hw⟩ := c_workOut (E := E) (d := d) (B := B) (c := c) (X := aq_ed S1) (by omega) okX (by rw [x4]; exact w6 rfl) (by rw [x4]; exact w4) st
  refine ⟨v, T1, st', r2, r4, w2, w5, ?_⟩
  rw [gl_s99 eX st, gl_s99 eX st', hw]
end
