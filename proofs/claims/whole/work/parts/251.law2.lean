/-! THE LAW: its cases -/
section
variable {E : mm_E} {B n : Nat} {S : mm_S} {c : mm_N} {k : Nat} {i : Int} {o5 o6 : Option Value}

theorem lw_feed (hE : pp_OE E B) (hL : E.1.2.1 ≤ 3072) (i0 : 0 ≤ i) (i1 : i + 6 ≤ E.1.2.1) (h : iv S k) (hk : k ≤ 1000) : lw_st E B n i k c (mm_r282_176 E (lw_cl E) (n + 9) E.1.1 (mm_ad B 0) (mm_ad B 101) (mm_ad B 123) (mm_i i) o5 o6 (mm_hp B S c)) := by
  obtain ⟨S1, S2, v, t1, t2, t3⟩ := i_feed (E := E) (d := 100) (B := B) h (by omega) (E.1.2.2 (i + 1).toNat) (E.1.2.2 (i + 2).toNat) (E.1.2.2 (i + 3).toNat) (E.1.2.2 (i + 4).toNat) (E.1.2.2 (i + 5).toNat) c
  rw [mm_e282_176]
  simp only [mm_hm]
  rw [lw_rd hE (by omega) (by omega) hL, lw_rd hE (by omega) (by omega) hL, lw_rd hE (by omega) (by omega) hL, lw_rd hE (by omega) (by omega) hL, lw_rd hE (by omega) (by omega) hL, lw_lo E 102 (by omega), t1, mm_cI_ok, lw_rd hE (by omega) (by omega) hL, lw_rd hE (by omega) (by omega) hL, lw_rd hE (by omega) (by omega) hL, lw_rd hE (by omega) (by omega) hL, lw_rd hE (by omega) (by omega) hL, lw_lo E 228 (by omega), t2, mm_cI_ok, mm_br_t rfl]
  exact lw_less (lw_end t3 (by omega) (by omega)) (by omega)
theorem lw_network (hE : pp_OE E B) (hL : E.1.2.1 ≤ 3072) (i0 : 0 ≤ i) (i1 : i + 6 ≤ E.1.2.1) (h : iv S k) (hk : k ≤ 1000) : lw_st E B n i k c (mm_r282_249 E (lw_cl E) (n + 9) E.1.1 (mm_ad B 0) (mm_ad B 101) (mm_ad B 123) (mm_i i) o5 o6 (mm_hp B S c)) := by
  have ok := i_network (E := E) (d := 100) (B := B) h hE (by omega) (lw_n (E.1.2.2 (i + 1).toNat))
  simp only [mm_i_of] at ok
  obtain ⟨q, b, S1, S2, c2, t1, t2, t3, t4, t5, t6, t7⟩ := lw_try (E := E) (B := B) (W := 262) (c := c) (ws := [.ref (mm_ad B 0), .int (E.1.2.2 (i + 1).toNat), .ref (mm_ad B 123)]) (mm_v262 (by omega) (fun F e hF he => by
    obtain rfl : e = 100 := by omega
    exact mm_e262_0 E (mm_ev E 100) (F + 99) (mm_ad B 0) (E.1.2.2 (i + 1).toNat) (mm_ad B 123) (mm_hp B S c))) lw_h3 ok
  rw [mm_e282_249]
  simp only [mm_hm]
  rw [lw_rd hE (by omega) (by omega) hL, lw_hi E 262 (by omega), t1, mm_cI_ok, lw_rd hE (by omega) (by omega) hL, lw_lo E 248 (by omega), t2, mm_cI_ok, lw_lo E 145 (by omega), c_thrown (by omega), mm_cI_ok, t3, mm_br_t rfl, mm_e282_285, lw_out t7]
  exact lw_less (lw_end t4 t5 t6) (by omega)
theorem lw_fault (hE : pp_OE E B) (hL : E.1.2.1 ≤ 3072) (i0 : 0 ≤ i) (i1 : i + 6 ≤ E.1.2.1) (h : iv S k) (hk : k ≤ 1000) : lw_st E B n i k c (mm_r282_305 E (lw_cl E) (n + 9) E.1.1 (mm_ad B 0) (mm_ad B 101) (mm_ad B 123) (mm_i i) o5 o6 (mm_hp B S c)) := by
  obtain ⟨S1, S2, v, t1, t2, t3⟩ := i_fault (E := E) (d := 100) (B := B) h (by omega) c
  rw [mm_e282_305, lw_lo E 104 (by omega), t1, mm_cI_ok, lw_lo E 241 (by omega), t2, mm_cI_ok, mm_br_t rfl]
  exact lw_less (lw_end t3 (by omega) (by omega)) (by omega)
theorem lw_count (hE : pp_OE E B) (hL : E.1.2.1 ≤ 3072) (i0 : 0 ≤ i) (i1 : i + 6 ≤ E.1.2.1) (h : iv S k) (hk : k ≤ 1000) : lw_st E B n i k c (mm_r282_318 E (lw_cl E) (n + 9) E.1.1 (mm_ad B 0) (mm_ad B 101) (mm_ad B 123) (mm_i i) o5 o6 (mm_hp B S c)) := by
  have ok := i_count (E := E) (d := 100) (B := B) h (by omega) (lw_n (E.1.2.2 (i + 1).toNat))
  simp only [mm_i_of] at ok
  obtain ⟨q, b, S1, S2, c2, t1, t2, t3, t4, t5, t6, t7⟩ := lw_try (E := E) (B := B) (W := 263) (c := c) (ws := [.ref (mm_ad B 0), .int (E.1.2.2 (i + 1).toNat), .ref (mm_ad B 123)]) (mm_v263 (by omega) (fun F e hF he => by
    obtain rfl : e = 100 := by omega
    exact mm_e263_0 E (mm_ev E 100) (F + 99) (mm_ad B 0) (E.1.2.2 (i + 1).toNat) (mm_ad B 123) (mm_hp B S c))) lw_h1 ok
  rw [mm_e282_318]
  simp only [mm_hm]
  rw [lw_rd hE (by omega) (by omega) hL, lw_hi E 263 (by omega), t1, mm_cI_ok, lw_rd hE (by omega) (by omega) hL, lw_lo E 168 (by omega), t2, mm_cI_ok, lw_lo E 145 (by omega), c_thrown (by omega), mm_cI_ok, t3, mm_br_t rfl, mm_e282_354, lw_out t7]
  exact lw_less (lw_end t4 t5 t6) (by omega)
theorem lw_letter (hE : pp_OE E B) (hL : E.1.2.1 ≤ 3072) (i0 : 0 ≤ i) (i1 : i + 6 ≤ E.1.2.1) (h : iv S k) (hk : k ≤ 1000) : lw_st E B n i k c (mm_r282_374 E (lw_cl E) (n + 9) E.1.1 (mm_ad B 0) (mm_ad B 101) (mm_ad B 123) (mm_i i) o5 o6 (mm_hp B S c)) := by
  have ok := i_letter (E := E) (d := 100) (B := B) h (by omega) (lw_n (E.1.2.2 (i + 1).toNat)) (lw_n (E.1.2.2 (i + 2).toNat))
  simp only [mm_i_of] at ok
  obtain ⟨q, b, S1, S2, c2, t1, t2, t3, t4, t5, t6, t7⟩ := lw_try (E := E) (B := B) (W := 264) (c := c) (ws := [.ref (mm_ad B 0), .int (E.1.2.2 (i + 1).toNat), .int (E.1.2.2 (i + 2).toNat), .ref (mm_ad B 123)]) (mm_v264 (by omega) (fun F e hF he => by
    obtain rfl : e = 100 := by omega
    exact mm_e264_0 E (mm_ev E 100) (F + 99) (mm_ad B 0) (E.1.2.2 (i + 1).toNat) (E.1.2.2 (i + 2).toNat) (mm_ad B 123) (mm_hp B S c))) lw_h1 ok
  rw [mm_e282_374]
  simp only [mm_hm]
  rw [lw_rd hE (by omega) (by omega) hL, lw_rd hE (by omega) (by omega) hL, lw_hi E 264 (by omega), t1, mm_cI_ok, mm_e282_393]
  simp only [mm_hm]
  rw [lw_rd hE (by omega) (by omega) hL, lw_rd hE (by omega) (by omega) hL, lw_lo E 169 (by omega), t2, mm_cI_ok, lw_lo E 145 (by omega), c_thrown (by omega), mm_cI_ok, t3, mm_br_t rfl, mm_e282_427]
  by_cases z : q = mm_i 0
  · rw [mm_br_t z, mm_prJ (n := 1) rfl (by omega) (by omega) (by omega), t7 z, lw_cmp, mm_br_t rfl]
    exact lw_less (lw_end t4 t5 t6) (by omega)
  · rw [mm_br_f z]
    exact lw_less (lw_end t4 t5 t6) (by omega)
theorem lw_stage (hE : pp_OE E B) (hL : E.1.2.1 ≤ 3072) (i0 : 0 ≤ i) (i1 : i + 6 ≤ E.1.2.1) (h : iv S k) (hk : k ≤ 1000) : lw_st E B n i k c (mm_r282_442 E (lw_cl E) (n + 9) E.1.1 (mm_ad B 0) (mm_ad B 101) (mm_ad B 123) (mm_i i) o5 o6 (mm_hp B S c)) := by
  have ok := i_stage (E := E) (d := 100) (B := B) h (by omega) (lw_n (E.1.2.2 (i + 1).toNat)) (lw_n (E.1.2.2 (i + 2).toNat))
  simp only [mm_i_of] at ok
  obtain ⟨q, b, S1, S2, c2, t1, t2, t3, t4, t5, t6, t7⟩ := lw_try (E := E) (B := B) (W := 265) (c := c) (ws := [.ref (mm_ad B 0), .int (E.1.2.2 (i + 1).toNat), .int (E.1.2.2 (i + 2).toNat), .ref (mm_ad B 123)]) (mm_v265 (by omega) (fun F e hF he => by
    obtain rfl : e = 100 := by omega
    exact mm_e265_0 E (mm_ev E 100) (F + 99) (mm_ad B 0) (E.1.2.2 (i + 1).toNat) (E.1.2.2 (i + 2).toNat) (mm_ad B 123) (mm_hp B S c))) lw_h1 ok
  rw [mm_e282_442]
  simp only [mm_hm]
  rw [lw_rd hE (by omega) (by omega) hL, lw_rd hE (by omega) (by omega) hL, lw_hi E 265 (by omega), t1, mm_cI_ok, mm_e282_461]
  simp only [mm_hm]
  rw [lw_rd hE (by omega) (by omega) hL, lw_rd hE (by omega) (by omega) hL, lw_lo E 170 (by omega), t2, mm_cI_ok, lw_lo E 145 (by omega), c_thrown (by omega), mm_cI_ok, t3, mm_br_t rfl, mm_e282_495]
  by_cases z : q = mm_i 0
  · rw [mm_br_t z, mm_prJ (n := 1) rfl (by omega) (by omega) (by omega), t7 z, lw_cmp, mm_br_t rfl]
    exact lw_less (lw_end t4 t5 t6) (by omega)
  · rw [mm_br_f z]
    exact lw_less (lw_end t4 t5 t6) (by omega)
theorem lw_bound (hE : pp_OE E B) (hL : E.1.2.1 ≤ 3072) (i0 : 0 ≤ i) (i1 : i + 6 ≤ E.1.2.1) (h : iv S k) (hk : k ≤ 1000) : lw_st E B n i k c (mm_r282_510 E (lw_cl E) (n + 9) E.1.1 (mm_ad B 0) (mm_ad B 101) (mm_ad B 123) (mm_i i) o5 o6 (mm_hp B S c)) := by
  have ok := i_bound (E := E) (d := 100) (B := B) h (by omega) (lw_n (E.1.2.2 (i + 1).toNat)) (lw_n (E.1.2.2 (i + 2).toNat)) (lw_n (E.1.2.2 (i + 3).toNat))
  simp only [mm_i_of] at ok
  obtain ⟨q, b, S1, S2, c2, t1, t2, t3, t4, t5, t6, t7⟩ := lw_try (E := E) (B := B) (W := 266) (c := c) (ws := [.ref (mm_ad B 0), .int (E.1.2.2 (i + 1).toNat), .int (E.1.2.2 (i + 2).toNat), .int (E.1.2.2 (i + 3).toNat), .ref (mm_ad B 123)]) (mm_v266 (by omega) (fun F e hF he => by
    obtain rfl : e = 100 := by omega
    exact mm_e266_0 E (mm_ev E 100) (F + 99) (mm_ad B 0) (E.1.2.2 (i + 1).toNat) (E.1.2.2 (i + 2).toNat) (E.1.2.2 (i + 3).toNat) (mm_ad B 123) (mm_hp B S c))) lw_h2 ok
  rw [mm_e282_510]
  simp only [mm_hm]
  rw [lw_rd hE (by omega) (by omega) hL, lw_rd hE (by omega) (by omega) hL, lw_rd hE (by omega) (by omega) hL, lw_hi E 266 (by omega), t1, mm_cI_ok, mm_e282_535]
  simp only [mm_hm]
  rw [lw_rd hE (by omega) (by omega) hL, lw_rd hE (by omega) (by omega) hL, lw_rd hE (by omega) (by omega) hL, lw_lo E 167 (by omega), t2, mm_cI_ok, mm_e282_559, lw_lo E 145 (by omega), c_thrown (by omega), mm_cI_ok, t3, mm_br_t rfl, mm_e282_570, lw_out t7]
  exact lw_less (lw_end t4 t5 t6) (by omega)
theorem lw_change (hE : pp_OE E B) (hL : E.1.2.1 ≤ 3072) (i0 : 0 ≤ i) (i1 : i + 6 ≤ E.1.2.1) (h : iv S k) (hk : k ≤ 1000) : lw_st E B n i k c (mm_r282_590 E (lw_cl E) (n + 9) E.1.1 (mm_ad B 0) (mm_ad B 101) (mm_ad B 123) (mm_i i) o5 o6 (mm_hp B S c)) := by
  have ok := i_change (E := E) (d := 100) (B := B) h hE (by omega) (lw_n (E.1.2.2 (i + 1).toNat)) (lw_n (E.1.2.2 (i + 2).toNat)) (lw_n (E.1.2.2 (i + 3).toNat))
  simp only [mm_i_of] at ok
  obtain ⟨q, b, S1, S2, c2, t1, t2, t3, t4, t5, t6, t7⟩ := lw_try (E := E) (B := B) (W := 267) (c := c) (ws := [.ref (mm_ad B 0), .int (E.1.2.2 (i + 1).toNat), .int (E.1.2.2 (i + 2).toNat), .int (E.1.2.2 (i + 3).toNat), .ref (mm_ad B 123)]) (mm_v267 (by omega) (fun F e hF he => by
    obtain rfl : e = 100 := by omega
    exact mm_e267_0 E (mm_ev E 100) (F + 99) (mm_ad B 0) (E.1.2.2 (i + 1).toNat) (E.1.2.2 (i + 2).toNat) (E.1.2.2 (i + 3).toNat) (mm_ad B 123) (mm_hp B S c))) lw_h2 ok
  rw [mm_e282_590]
  simp only [mm_hm]
  rw [lw_rd hE (by omega) (by omega) hL, lw_rd hE (by omega) (by omega) hL, lw_rd hE (by omega) (by omega) hL, lw_hi E 267 (by omega), t1, mm_cI_ok, mm_e282_615]
  simp only [mm_hm]
  rw [lw_rd hE (by omega) (by omega) hL, lw_rd hE (by omega) (by omega) hL, lw_rd hE (by omega) (by omega) hL, lw_lo E 173 (by omega), t2, mm_cI_ok, mm_e282_639, lw_lo E 145 (by omega), c_thrown (by omega), mm_cI_ok, t3, mm_br_t rfl, mm_e282_650, lw_out t7]
  exact lw_less (lw_end t4 t5 t6) (by omega)
theorem lw_add (hE : pp_OE E B) (hL : E.1.2.1 ≤ 3072) (i0 : 0 ≤ i) (i1 : i + 6 ≤ E.1.2.1) (h : iv S k) (hk : k ≤ 1000) : lw_st E B n i k c (mm_r282_670 E (lw_cl E) (n + 9) E.1.1 (mm_ad B 0) (mm_ad B 101) (mm_ad B 123) (mm_i i) o5 o6 (mm_hp B S c)) := by
  have ok : ∀ u : Int, u = 0 ∨ u = 1 → iv_ok0 E B 100 S k 110 [.ref (mm_ad B 0), .int (E.1.2.2 (i + 1).toNat), .int (mm_i u), .int (E.1.2.2 (i + 3).toNat), .int (E.1.2.2 (i + 4).toNat)] 174 [.ref (mm_ad B 101), .int (E.1.2.2 (i + 1).toNat), .int (mm_i u), .int (E.1.2.2 (i + 3).toNat), .int (E.1.2.2 (i + 4).toNat)] := fun u hu => by
    have z := i_add (E := E) (d := 100) (B := B) h hE (by omega) (lw_n (E.1.2.2 (i + 1).toNat)) hu (lw_n (E.1.2.2 (i + 3).toNat)) (lw_n (E.1.2.2 (i + 4).toNat))
    simp only [mm_i_of] at z
    exact z
  rw [mm_e282_670]
  simp only [mm_hm]
  rw [lw_rd hE (by omega) (by omega) hL, lw_rd hE (by omega) (by omega) hL]
  by_cases z : (E.1.2.2 (i + 2).toNat) = mm_i 0
  · obtain ⟨S1, S2, v, t1, t2, t3⟩ := ok 0 (Or.inl rfl) c
    rw [mm_br_t z, mm_e282_691]
    simp only [mm_hm]
    rw [lw_rd hE (by omega) (by omega) hL, lw_rd hE (by omega) (by omega) hL, lw_lo E 110 (by omega), t1, mm_cI_ok, lw_rd hE (by omega) (by omega) hL, lw_rd hE (by omega) (by omega) hL, mm_br_t z, lw_rd hE (by omega) (by omega) hL, lw_rd hE (by omega) (by omega) hL, lw_lo E 174 (by omega), t2, mm_cI_ok, mm_br_t rfl]
    exact lw_less (lw_end t3 (by omega) (by omega)) (by omega)
  · obtain ⟨S1, S2, v, t1, t2, t3⟩ := ok 1 (Or.inr rfl) c
    rw [mm_br_f z, mm_e282_691]
    simp only [mm_hm]
    rw [lw_rd hE (by omega) (by omega) hL, lw_rd hE (by omega) (by omega) hL, lw_lo E 110 (by omega), t1, mm_cI_ok, lw_rd hE (by omega) (by omega) hL, lw_rd hE (by omega) (by omega) hL, mm_br_f z, lw_rd hE (by omega) (by omega) hL, lw_rd hE (by omega) (by omega) hL, lw_lo E 174 (by omega), t2, mm_cI_ok, mm_br_t rfl]
    exact lw_less (lw_end t3 (by omega) (by omega)) (by omega)
theorem lw_supply (hE : pp_OE E B) (hL : E.1.2.1 ≤ 3072) (i0 : 0 ≤ i) (i1 : i + 6 ≤ E.1.2.1) (h : iv S k) (hk : k ≤ 1000) : lw_st E B n i k c (mm_r282_747 E (lw_cl E) (n + 9) E.1.1 (mm_ad B 0) (mm_ad B 101) (mm_ad B 123) (mm_i i) o5 o6 (mm_hp B S c)) := by
  have ok := i_supply (E := E) (d := 100) (B := B) h (by omega) (lw_n (E.1.2.2 (i + 1).toNat)) (lw_n (E.1.2.2 (i + 2).toNat))
  simp only [mm_i_of] at ok
  obtain ⟨S1, S2, v, t1, t2, t3⟩ := ok c
  rw [mm_e282_747]
  simp only [mm_hm]
  rw [lw_rd hE (by omega) (by omega) hL, lw_rd hE (by omega) (by omega) hL, lw_lo E 111 (by omega), t1, mm_cI_ok, lw_rd hE (by omega) (by omega) hL, lw_rd hE (by omega) (by omega) hL, lw_lo E 175 (by omega), t2, mm_cI_ok, mm_br_t rfl]
  exact lw_less (lw_end t3 (by omega) (by omega)) (by omega)
theorem lw_pin (hE : pp_OE E B) (hL : E.1.2.1 ≤ 3072) (i0 : 0 ≤ i) (i1 : i + 6 ≤ E.1.2.1) (h : iv S k) (hk : k ≤ 1000) : lw_st E B n i k c (mm_r282_784 E (lw_cl E) (n + 9) E.1.1 (mm_ad B 0) (mm_ad B 101) (mm_ad B 123) (mm_i i) o5 o6 (mm_hp B S c)) := by
  have ok := i_pin (E := E) (d := 100) (B := B) h hE (by omega) (lw_n (E.1.2.2 (i + 1).toNat)) (lw_n (E.1.2.2 (i + 2).toNat))
  simp only [mm_i_of] at ok
  obtain ⟨q, b, S1, S2, c2, t1, t2, t3, t4, t5, t6, t7⟩ := lw_try (E := E) (B := B) (W := 268) (c := c) (ws := [.ref (mm_ad B 0), .int (E.1.2.2 (i + 1).toNat), .int (E.1.2.2 (i + 2).toNat), .ref (mm_ad B 123)]) (mm_v268 (by omega) (fun F e hF he => by
    obtain rfl : e = 100 := by omega
    exact mm_e268_0 E (mm_ev E 100) (F + 99) (mm_ad B 0) (E.1.2.2 (i + 1).toNat) (E.1.2.2 (i + 2).toNat) (mm_ad B 123) (mm_hp B S c))) lw_h2 ok
  rw [mm_e282_784]
  simp only [mm_hm]
  rw [lw_rd hE (by omega) (by omega) hL, lw_rd hE (by omega) (by omega) hL, lw_hi E 268 (by omega), t1, mm_cI_ok, mm_e282_803]
  simp only [mm_hm]
  rw [lw_rd hE (by omega) (by omega) hL, lw_rd hE (by omega) (by omega) hL, lw_lo E 176 (by omega), t2, mm_cI_ok, lw_lo E 145 (by omega), c_thrown (by omega), mm_cI_ok, t3, mm_br_t rfl, mm_e282_837]
  by_cases z : q = mm_i 0
  · rw [mm_br_t z, mm_prJ (n := 1) rfl (by omega) (by omega) (by omega), t7 z, lw_cmp, mm_br_t rfl]
    exact lw_less (lw_end t4 t5 t6) (by omega)
  · rw [mm_br_f z]
    exact lw_less (lw_end t4 t5 t6) (by omega)
theorem lw_undo (hE : pp_OE E B) (hL : E.1.2.1 ≤ 3072) (i0 : 0 ≤ i) (i1 : i + 6 ≤ E.1.2.1) (h : iv S k) (hk : k ≤ 1000) : lw_st E B n i k c (mm_r282_852 E (lw_cl E) (n + 9) E.1.1 (mm_ad B 0) (mm_ad B 101) (mm_ad B 123) (mm_i i) o5 o6 (mm_hp B S c)) := by
  obtain ⟨S1, S2, v, t1, t2, t3⟩ := i_undo (E := E) (d := 100) (B := B) h (by omega) c
  rw [mm_e282_852, lw_lo E 113 (by omega), t1, mm_cI_ok, lw_lo E 178 (by omega), t2, mm_cI_ok, mm_br_t rfl]
  exact lw_less (lw_end t3 (by omega) (by omega)) (by omega)
theorem lw_take (hE : pp_OE E B) (hL : E.1.2.1 ≤ 3072) (i0 : 0 ≤ i) (i1 : i + 6 ≤ E.1.2.1) (h : iv S k) (hk : k ≤ 1000) : lw_st E B n i k c (mm_r282_865 E (lw_cl E) (n + 9) E.1.1 (mm_ad B 0) (mm_ad B 101) (mm_ad B 123) (mm_i i) o5 o6 (mm_hp B S c)) := by
  have ok := i_take (E := E) (d := 100) (B := B) h (by omega) (lw_n (E.1.2.2 (i + 1).toNat))
  simp only [mm_i_of] at ok
  obtain ⟨S1, S2, v, t1, t2, t3⟩ := ok c
  rw [mm_e282_865]
  simp only [mm_hm]
  rw [lw_rd hE (by omega) (by omega) hL, lw_lo E 114 (by omega), t1, mm_cI_ok, lw_rd hE (by omega) (by omega) hL, lw_lo E 190 (by omega), t2, mm_cI_ok, mm_br_t rfl]
  exact lw_less (lw_end t3 (by omega) (by omega)) (by omega)
theorem lw_promise (hE : pp_OE E B) (hL : E.1.2.1 ≤ 3072) (i0 : 0 ≤ i) (i1 : i + 6 ≤ E.1.2.1) (h : iv S k) (hk : k ≤ 1000) : lw_st E B n i k c (mm_r282_890 E (lw_cl E) (n + 9) E.1.1 (mm_ad B 0) (mm_ad B 101) (mm_ad B 123) (mm_i i) o5 o6 (mm_hp B S c)) := by
  have ok := i_promise (E := E) (d := 100) (B := B) h (by omega) (lw_n (E.1.2.2 (i + 1).toNat)) (lw_n (E.1.2.2 (i + 2).toNat))
  simp only [mm_i_of] at ok
  obtain ⟨q, b, S1, S2, c2, t1, t2, t3, t4, t5, t6, t7⟩ := lw_try (E := E) (B := B) (W := 269) (c := c) (ws := [.ref (mm_ad B 0), .int (E.1.2.2 (i + 1).toNat), .int (E.1.2.2 (i + 2).toNat), .ref (mm_ad B 123)]) (mm_v269 (by omega) (fun F e hF he => by
    obtain rfl : e = 100 := by omega
    exact mm_e269_0 E (mm_ev E 100) (F + 99) (mm_ad B 0) (E.1.2.2 (i + 1).toNat) (E.1.2.2 (i + 2).toNat) (mm_ad B 123) (mm_hp B S c))) lw_h2 ok
  rw [mm_e282_890]
  simp only [mm_hm]
  rw [lw_rd hE (by omega) (by omega) hL, lw_rd hE (by omega) (by omega) hL, lw_hi E 269 (by omega), t1, mm_cI_ok, mm_e282_909]
  simp only [mm_hm]
  rw [lw_rd hE (by omega) (by omega) hL, lw_rd hE (by omega) (by omega) hL, lw_lo E 187 (by omega), t2, mm_cI_ok, lw_lo E 145 (by omega), c_thrown (by omega), mm_cI_ok, t3, mm_br_t rfl, mm_e282_943]
  by_cases z : q = mm_i 0
  · rw [mm_br_t z, mm_prJ (n := 1) rfl (by omega) (by omega) (by omega), t7 z, lw_cmp, mm_br_t rfl]
    exact lw_less (lw_end t4 t5 t6) (by omega)
  · rw [mm_br_f z]
    exact lw_less (lw_end t4 t5 t6) (by omega)
theorem lw_planned (hE : pp_OE E B) (hL : E.1.2.1 ≤ 3072) (i0 : 0 ≤ i) (i1 : i + 6 ≤ E.1.2.1) (h : iv S k) (hk : k ≤ 1000) : lw_st E B n i k c (mm_r282_958 E (lw_cl E) (n + 9) E.1.1 (mm_ad B 0) (mm_ad B 101) (mm_ad B 123) (mm_i i) o5 o6 (mm_hp B S c)) := by
  have ok := i_planned (E := E) (d := 100) (B := B) h (by omega) (lw_n (E.1.2.2 (i + 1).toNat)) (lw_n (E.1.2.2 (i + 2).toNat))
  simp only [mm_i_of] at ok
  obtain ⟨q, b, S1, S2, c2, t1, t2, t3, t4, t5, t6, t7⟩ := lw_try (E := E) (B := B) (W := 270) (c := c) (ws := [.ref (mm_ad B 0), .int (E.1.2.2 (i + 1).toNat), .int (E.1.2.2 (i + 2).toNat), .ref (mm_ad B 123)]) (mm_v270 (by omega) (fun F e hF he => by
    obtain rfl : e = 100 := by omega
    exact mm_e270_0 E (mm_ev E 100) (F + 99) (mm_ad B 0) (E.1.2.2 (i + 1).toNat) (E.1.2.2 (i + 2).toNat) (mm_ad B 123) (mm_hp B S c))) lw_h1 ok
  rw [mm_e282_958]
  simp only [mm_hm]
  rw [lw_rd hE (by omega) (by omega) hL, lw_rd hE (by omega) (by omega) hL, lw_hi E 270 (by omega), t1, mm_cI_ok, mm_e282_977]
  simp only [mm_hm]
  rw [lw_rd hE (by omega) (by omega) hL, lw_rd hE (by omega) (by omega) hL, lw_lo E 185 (by omega), t2, mm_cI_ok, lw_lo E 145 (by omega), c_thrown (by omega), mm_cI_ok, t3, mm_br_t rfl, mm_e282_1011]
  by_cases z : q = mm_i 0
  · rw [mm_br_t z, mm_prJ (n := 1) rfl (by omega) (by omega) (by omega), t7 z, lw_cmp, mm_br_t rfl]
    exact lw_less (lw_end t4 t5 t6) (by omega)
  · rw [mm_br_f z]
    exact lw_less (lw_end t4 t5 t6) (by omega)
theorem lw_plan (hE : pp_OE E B) (hL : E.1.2.1 ≤ 3072) (i0 : 0 ≤ i) (i1 : i + 6 ≤ E.1.2.1) (h : iv S k) (hk : k ≤ 1000) : lw_st E B n i k c (mm_r282_1026 E (lw_cl E) (n + 9) E.1.1 (mm_ad B 0) (mm_ad B 101) (mm_ad B 123) (mm_i i) o5 o6 (mm_hp B S c)) := by
  have ok := i_plan (E := E) (d := 100) (B := B) h (by omega) (lw_n (E.1.2.2 (i + 1).toNat))
  simp only [mm_i_of] at ok
  obtain ⟨q, b, S1, S2, c2, t1, t2, t3, t4, t5, t6, t7⟩ := lw_try (E := E) (B := B) (W := 271) (c := c) (ws := [.ref (mm_ad B 0), .int (E.1.2.2 (i + 1).toNat), .ref (mm_ad B 123)]) (mm_v271 (by omega) (fun F e hF he => by
    obtain rfl : e = 100 := by omega
    exact mm_e271_0 E (mm_ev E 100) (F + 99) (mm_ad B 0) (E.1.2.2 (i + 1).toNat) (mm_ad B 123) (mm_hp B S c))) lw_h1 ok
  rw [mm_e282_1026]
  simp only [mm_hm]
  rw [lw_rd hE (by omega) (by omega) hL, lw_hi E 271 (by omega), t1, mm_cI_ok, lw_rd hE (by omega) (by omega) hL, lw_lo E 186 (by omega), t2, mm_cI_ok, lw_lo E 145 (by omega), c_thrown (by omega), mm_cI_ok, t3, mm_br_t rfl, mm_e282_1062, lw_out t7]
  exact lw_less (lw_end t4 t5 t6) (by omega)
theorem lw_least (hE : pp_OE E B) (hL : E.1.2.1 ≤ 3072) (i0 : 0 ≤ i) (i1 : i + 6 ≤ E.1.2.1) (h : iv S k) (hk : k ≤ 1000) : lw_st E B n i k c (mm_r282_1082 E (lw_cl E) (n + 9) E.1.1 (mm_ad B 0) (mm_ad B 101) (mm_ad B 123) (mm_i i) o5 o6 (mm_hp B S c)) := by
  obtain ⟨S1, S2, v, t1, t2, t3⟩ := i_least (E := E) (d := 100) (B := B) h (by omega) c
  rw [mm_e282_1082, lw_lo E 118 (by omega), t1, mm_cI_ok, lw_lo E 204 (by omega), t2, mm_cI_ok, mm_br_t rfl]
  exact lw_less (lw_end t3 (by omega) (by omega)) (by omega)
theorem lw_worth (hE : pp_OE E B) (hL : E.1.2.1 ≤ 3072) (i0 : 0 ≤ i) (i1 : i + 6 ≤ E.1.2.1) (h : iv S k) (hk : k ≤ 1000) : lw_st E B n i k c (mm_r282_1095 E (lw_cl E) (n + 9) E.1.1 (mm_ad B 0) (mm_ad B 101) (mm_ad B 123) (mm_i i) o5 o6 (mm_hp B S c)) := by
  have ok := i_worth (E := E) (d := 100) (B := B) h (by omega) (lw_n (E.1.2.2 (i + 1).toNat)) (lw_n (E.1.2.2 (i + 2).toNat))
  simp only [mm_i_of] at ok
  obtain ⟨q, b, S1, S2, c2, t1, t2, t3, t4, t5, t6, t7⟩ := lw_try (E := E) (B := B) (W := 272) (c := c) (ws := [.ref (mm_ad B 0), .int (E.1.2.2 (i + 1).toNat), .int (E.1.2.2 (i + 2).toNat), .ref (mm_ad B 123)]) (mm_v272 (by omega) (fun F e hF he => by
    obtain rfl : e = 100 := by omega
    exact mm_e272_0 E (mm_ev E 100) (F + 99) (mm_ad B 0) (E.1.2.2 (i + 1).toNat) (E.1.2.2 (i + 2).toNat) (mm_ad B 123) (mm_hp B S c))) lw_h1 ok
  rw [mm_e282_1095]
  simp only [mm_hm]
  rw [lw_rd hE (by omega) (by omega) hL, lw_rd hE (by omega) (by omega) hL, lw_hi E 272 (by omega), t1, mm_cI_ok, mm_e282_1114]
  simp only [mm_hm]
  rw [lw_rd hE (by omega) (by omega) hL, lw_rd hE (by omega) (by omega) hL, lw_lo E 207 (by omega), t2, mm_cI_ok, lw_lo E 145 (by omega), c_thrown (by omega), mm_cI_ok, t3, mm_br_t rfl, mm_e282_1148]
  by_cases z : q = mm_i 0
  · rw [mm_br_t z, mm_prJ (n := 1) rfl (by omega) (by omega) (by omega), t7 z, lw_cmp, mm_br_t rfl]
    exact lw_less (lw_end t4 t5 t6) (by omega)
  · rw [mm_br_f z]
    exact lw_less (lw_end t4 t5 t6) (by omega)
theorem lw_even (hE : pp_OE E B) (hL : E.1.2.1 ≤ 3072) (i0 : 0 ≤ i) (i1 : i + 6 ≤ E.1.2.1) (h : iv S k) (hk : k ≤ 1000) : lw_st E B n i k c (mm_r282_1163 E (lw_cl E) (n + 9) E.1.1 (mm_ad B 0) (mm_ad B 101) (mm_ad B 123) (mm_i i) o5 o6 (mm_hp B S c)) := by
  have ok := i_even (E := E) (d := 100) (B := B) h hk (by omega) (lw_n (E.1.2.2 (i + 1).toNat))
  simp only [mm_i_of] at ok
  obtain ⟨q, b, S1, S2, c2, t1, t2, t3, t4, t5, t6, t7⟩ := lw_try (E := E) (B := B) (W := 273) (c := c) (ws := [.ref (mm_ad B 0), .int (E.1.2.2 (i + 1).toNat), .ref (mm_ad B 123)]) (mm_v273 (by omega) (fun F e hF he => by
    obtain rfl : e = 100 := by omega
    exact mm_e273_0 E (mm_ev E 100) (F + 99) (mm_ad B 0) (E.1.2.2 (i + 1).toNat) (mm_ad B 123) (mm_hp B S c))) lw_h3 ok
  rw [mm_e282_1163]
  simp only [mm_hm]
  rw [lw_rd hE (by omega) (by omega) hL, lw_hi E 273 (by omega), t1, mm_cI_ok, lw_rd hE (by omega) (by omega) hL, lw_lo E 209 (by omega), t2, mm_cI_ok, lw_lo E 145 (by omega), c_thrown (by omega), mm_cI_ok, t3, mm_br_t rfl, mm_e282_1199, lw_out t7]
  exact lw_less (lw_end t4 t5 t6) (by omega)
theorem lw_budget (hE : pp_OE E B) (hL : E.1.2.1 ≤ 3072) (i0 : 0 ≤ i) (i1 : i + 6 ≤ E.1.2.1) (h : iv S k) (hk : k ≤ 1000) : lw_st E B n i k c (mm_r282_1219 E (lw_cl E) (n + 9) E.1.1 (mm_ad B 0) (mm_ad B 101) (mm_ad B 123) (mm_i i) o5 o6 (mm_hp B S c)) := by
  have ok := i_budget (E := E) (d := 100) (B := B) h hk (by omega) (lw_n (E.1.2.2 (i + 1).toNat))
  simp only [mm_i_of] at ok
  obtain ⟨S1, S2, v, t1, t2, t3⟩ := ok c
  rw [mm_e282_1219]
  simp only [mm_hm]
  rw [lw_rd hE (by omega) (by omega) hL, lw_lo E 121 (by omega), t1, mm_cI_ok, lw_rd hE (by omega) (by omega) hL, lw_lo E 210 (by omega), t2, mm_cI_ok, mm_br_t rfl]
  exact lw_less (lw_end t3 (by omega) (by omega)) (by omega)
theorem lw_pinned (hE : pp_OE E B) (hL : E.1.2.1 ≤ 3072) (i0 : 0 ≤ i) (i1 : i + 6 ≤ E.1.2.1) (h : iv S k) (hk : k ≤ 1000) : lw_st E B n i k c (mm_r282_1244 E (lw_cl E) (n + 9) E.1.1 (mm_ad B 0) (mm_ad B 101) (mm_ad B 123) (mm_i i) o5 o6 (mm_hp B S c)) := by
  have ok := i_pinned (E := E) (d := 100) (B := B) h (by omega) (lw_n (E.1.2.2 (i + 1).toNat)) (lw_n (E.1.2.2 (i + 2).toNat))
  simp only [mm_i_of] at ok
  obtain ⟨q, b, S1, S2, c2, t1, t2, t3, t4, t5, t6, t7⟩ := lw_try (E := E) (B := B) (W := 274) (c := c) (ws := [.ref (mm_ad B 0), .int (E.1.2.2 (i + 1).toNat), .int (E.1.2.2 (i + 2).toNat), .ref (mm_ad B 123)]) (mm_v274 (by omega) (fun F e hF he => by
    obtain rfl : e = 100 := by omega
    exact mm_e274_0 E (mm_ev E 100) (F + 99) (mm_ad B 0) (E.1.2.2 (i + 1).toNat) (E.1.2.2 (i + 2).toNat) (mm_ad B 123) (mm_hp B S c))) lw_h2 ok
  rw [mm_e282_1244]
  simp only [mm_hm]
  rw [lw_rd hE (by omega) (by omega) hL, lw_rd hE (by omega) (by omega) hL, lw_hi E 274 (by omega), t1, mm_cI_ok, mm_e282_1263]
  simp only [mm_hm]
  rw [lw_rd hE (by omega) (by omega) hL, lw_rd hE (by omega) (by omega) hL, lw_lo E 211 (by omega), t2, mm_cI_ok, lw_lo E 145 (by omega), c_thrown (by omega), mm_cI_ok, t3, mm_br_t rfl, mm_e282_1297]
  by_cases z : q = mm_i 0
  · rw [mm_br_t z, mm_prJ (n := 1) rfl (by omega) (by omega) (by omega), t7 z, lw_cmp, mm_br_t rfl]
    exact lw_less (lw_end t4 t5 t6) (by omega)
  · rw [mm_br_f z]
    exact lw_less (lw_end t4 t5 t6) (by omega)
theorem lw_demand (hE : pp_OE E B) (hL : E.1.2.1 ≤ 3072) (i0 : 0 ≤ i) (i1 : i + 6 ≤ E.1.2.1) (h : iv S k) (hk : k ≤ 1000) : lw_st E B n i k c (mm_r282_1312 E (lw_cl E) (n + 9) E.1.1 (mm_ad B 0) (mm_ad B 101) (mm_ad B 123) (mm_i i) o5 o6 (mm_hp B S c)) := by
  have ok := i_demand (E := E) (d := 100) (B := B) h (by omega) (lw_n (E.1.2.2 (i + 1).toNat)) (lw_n (E.1.2.2 (i + 2).toNat)) (lw_n (E.1.2.2 (i + 3).toNat))
  simp only [mm_i_of] at ok
  obtain ⟨q, b, S1, S2, c2, t1, t2, t3, t4, t5, t6, t7⟩ := lw_try (E := E) (B := B) (W := 275) (c := c) (ws := [.ref (mm_ad B 0), .int (E.1.2.2 (i + 1).toNat), .int (E.1.2.2 (i + 2).toNat), .int (E.1.2.2 (i + 3).toNat), .ref (mm_ad B 123)]) (mm_v275 (by omega) (fun F e hF he => by
    obtain rfl : e = 100 := by omega
    exact mm_e275_0 E (mm_ev E 100) (F + 99) (mm_ad B 0) (E.1.2.2 (i + 1).toNat) (E.1.2.2 (i + 2).toNat) (E.1.2.2 (i + 3).toNat) (mm_ad B 123) (mm_hp B S c))) lw_h2 ok
  rw [mm_e282_1312]
  simp only [mm_hm]
  rw [lw_rd hE (by omega) (by omega) hL, lw_rd hE (by omega) (by omega) hL, lw_rd hE (by omega) (by omega) hL, lw_hi E 275 (by omega), t1, mm_cI_ok, mm_e282_1337]
  simp only [mm_hm]
  rw [lw_rd hE (by omega) (by omega) hL, lw_rd hE (by omega) (by omega) hL, lw_rd hE (by omega) (by omega) hL, lw_lo E 214 (by omega), t2, mm_cI_ok, mm_e282_1361, lw_lo E 145 (by omega), c_thrown (by omega), mm_cI_ok, t3, mm_br_t rfl, mm_e282_1372, lw_out t7]
  exact lw_less (lw_end t4 t5 t6) (by omega)
theorem lw_drawn (hE : pp_OE E B) (hL : E.1.2.1 ≤ 3072) (i0 : 0 ≤ i) (i1 : i + 6 ≤ E.1.2.1) (h : iv S k) (hk : k ≤ 1000) : lw_st E B n i k c (mm_r282_1392 E (lw_cl E) (n + 9) E.1.1 (mm_ad B 0) (mm_ad B 101) (mm_ad B 123) (mm_i i) o5 o6 (mm_hp B S c)) := by
  have ok := i_drawn (E := E) (d := 100) (B := B) h (by omega) (x := (E.1.2.2 (i + 2).toNat).toInt) (lw_n (E.1.2.2 (i + 1).toNat))
  simp only [mm_i_of] at ok
  obtain ⟨q, b, S1, S2, c2, t1, t2, t3, t4, t5, t6, t7⟩ := lw_try (E := E) (B := B) (W := 276) (c := c) (ws := [.ref (mm_ad B 0), .int (E.1.2.2 (i + 1).toNat), .int (E.1.2.2 (i + 2).toNat), .ref (mm_ad B 123)]) (mm_v276 (by omega) (fun F e hF he => by
    obtain rfl : e = 100 := by omega
    exact mm_e276_0 E (mm_ev E 100) (F + 99) (mm_ad B 0) (E.1.2.2 (i + 1).toNat) (E.1.2.2 (i + 2).toNat) (mm_ad B 123) (mm_hp B S c))) lw_h1 ok
  rw [mm_e282_1392]
  simp only [mm_hm]
  rw [lw_rd hE (by omega) (by omega) hL, lw_rd hE (by omega) (by omega) hL, lw_hi E 276 (by omega), t1, mm_cI_ok, mm_e282_1411]
  simp only [mm_hm]
  rw [lw_rd hE (by omega) (by omega) hL, lw_rd hE (by omega) (by omega) hL, lw_lo E 216 (by omega), t2, mm_cI_ok, lw_lo E 145 (by omega), c_thrown (by omega), mm_cI_ok, t3, mm_br_t rfl, mm_e282_1445]
  by_cases z : q = mm_i 0
  · rw [mm_br_t z, mm_prJ (n := 1) rfl (by omega) (by omega) (by omega), t7 z, lw_cmp, mm_br_t rfl]
    exact lw_less (lw_end t4 t5 t6) (by omega)
  · rw [mm_br_f z]
    exact lw_less (lw_end t4 t5 t6) (by omega)
theorem lw_day (hE : pp_OE E B) (hL : E.1.2.1 ≤ 3072) (i0 : 0 ≤ i) (i1 : i + 6 ≤ E.1.2.1) (h : iv S k) (hk : k ≤ 1000) : lw_st E B n i k c (mm_r282_1460 E (lw_cl E) (n + 9) E.1.1 (mm_ad B 0) (mm_ad B 101) (mm_ad B 123) (mm_i i) o5 o6 (mm_hp B S c)) := by
  have ok := i_day (E := E) (d := 100) (B := B) h (by omega) (lw_n (E.1.2.2 (i + 1).toNat)) (lw_n (E.1.2.2 (i + 2).toNat)) (lw_n (E.1.2.2 (i + 3).toNat))
  simp only [mm_i_of] at ok
  obtain ⟨q, b, S1, S2, c2, t1, t2, t3, t4, t5, t6, t7⟩ := lw_try (E := E) (B := B) (W := 277) (c := c) (ws := [.ref (mm_ad B 0), .int (E.1.2.2 (i + 1).toNat), .int (E.1.2.2 (i + 2).toNat), .int (E.1.2.2 (i + 3).toNat), .ref (mm_ad B 123)]) (mm_v277 (by omega) (fun F e hF he => by
    obtain rfl : e = 100 := by omega
    exact mm_e277_0 E (mm_ev E 100) (F + 99) (mm_ad B 0) (E.1.2.2 (i + 1).toNat) (E.1.2.2 (i + 2).toNat) (E.1.2.2 (i + 3).toNat) (mm_ad B 123) (mm_hp B S c))) lw_h1 ok
  rw [mm_e282_1460]
  simp only [mm_hm]
  rw [lw_rd hE (by omega) (by omega) hL, lw_rd hE (by omega) (by omega) hL, lw_rd hE (by omega) (by omega) hL, lw_hi E 277 (by omega), t1, mm_cI_ok, mm_e282_1485]
  simp only [mm_hm]
  rw [lw_rd hE (by omega) (by omega) hL, lw_rd hE (by omega) (by omega) hL, lw_rd hE (by omega) (by omega) hL, lw_lo E 221 (by omega), t2, mm_cI_ok, mm_e282_1509, lw_lo E 145 (by omega), c_thrown (by omega), mm_cI_ok, t3, mm_br_t rfl, mm_e282_1520, lw_out t7]
  exact lw_less (lw_end t4 t5 t6) (by omega)
theorem lw_days (hE : pp_OE E B) (hL : E.1.2.1 ≤ 3072) (i0 : 0 ≤ i) (i1 : i + 6 ≤ E.1.2.1) (h : iv S k) (hk : k ≤ 1000) : lw_st E B n i k c (mm_r282_1540 E (lw_cl E) (n + 9) E.1.1 (mm_ad B 0) (mm_ad B 101) (mm_ad B 123) (mm_i i) o5 o6 (mm_hp B S c)) := by
  have ok := i_days (E := E) (d := 100) (B := B) h (by omega) (lw_n (E.1.2.2 (i + 1).toNat)) (lw_n (E.1.2.2 (i + 2).toNat))
  simp only [mm_i_of] at ok
  obtain ⟨q, b, S1, S2, c2, t1, t2, t3, t4, t5, t6, t7⟩ := lw_try (E := E) (B := B) (W := 278) (c := c) (ws := [.ref (mm_ad B 0), .int (E.1.2.2 (i + 1).toNat), .int (E.1.2.2 (i + 2).toNat), .ref (mm_ad B 123)]) (mm_v278 (by omega) (fun F e hF he => by
    obtain rfl : e = 100 := by omega
    exact mm_e278_0 E (mm_ev E 100) (F + 99) (mm_ad B 0) (E.1.2.2 (i + 1).toNat) (E.1.2.2 (i + 2).toNat) (mm_ad B 123) (mm_hp B S c))) lw_h1 ok
  rw [mm_e282_1540]
  simp only [mm_hm]
  rw [lw_rd hE (by omega) (by omega) hL, lw_rd hE (by omega) (by omega) hL, lw_hi E 278 (by omega), t1, mm_cI_ok, mm_e282_1559]
  simp only [mm_hm]
  rw [lw_rd hE (by omega) (by omega) hL, lw_rd hE (by omega) (by omega) hL, lw_lo E 222 (by omega), t2, mm_cI_ok, lw_lo E 145 (by omega), c_thrown (by omega), mm_cI_ok, t3, mm_br_t rfl, mm_e282_1593]
  by_cases z : q = mm_i 0
  · rw [mm_br_t z, mm_prJ (n := 1) rfl (by omega) (by omega) (by omega), t7 z, lw_cmp, mm_br_t rfl]
    exact lw_less (lw_end t4 t5 t6) (by omega)
  · rw [mm_br_f z]
    exact lw_less (lw_end t4 t5 t6) (by omega)
theorem lw_ask (hE : pp_OE E B) (hL : E.1.2.1 ≤ 3072) (i0 : 0 ≤ i) (i1 : i + 6 ≤ E.1.2.1) (h : iv S k) (hk : k ≤ 1000) : lw_st E B n i k c (mm_r282_1608 E (lw_cl E) (n + 9) E.1.1 (mm_ad B 0) (mm_ad B 101) (mm_ad B 123) (mm_i i) o5 o6 (mm_hp B S c)) := by
  have ok := i_ask (E := E) (d := 100) (B := B) h hE (by omega) (lw_n (E.1.2.2 (i + 1).toNat))
  simp only [mm_i_of] at ok
  obtain ⟨q, b, S1, S2, c2, t1, t2, t3, t4, t5, t6, t7⟩ := lw_try (E := E) (B := B) (W := 279) (c := c) (ws := [.ref (mm_ad B 0), .int (E.1.2.2 (i + 1).toNat), .ref (mm_ad B 123)]) (mm_v279 (by omega) (fun F e hF he => by
    obtain rfl : e = 100 := by omega
    exact mm_e279_0 E (mm_ev E 100) (F + 99) (mm_ad B 0) (E.1.2.2 (i + 1).toNat) (mm_ad B 123) (mm_hp B S c))) lw_h3 ok
  rw [mm_e282_1608]
  simp only [mm_hm]
  rw [lw_rd hE (by omega) (by omega) hL, lw_hi E 279 (by omega), t1, mm_cI_ok, lw_rd hE (by omega) (by omega) hL, lw_lo E 261 (by omega), t2, mm_cI_ok, lw_lo E 145 (by omega), c_thrown (by omega), mm_cI_ok, t3, mm_br_t rfl, mm_e282_1644, lw_out t7]
  exact lw_less (lw_end t4 t5 t6) (by omega)
theorem lw_chain (hE : pp_OE E B) (hL : E.1.2.1 ≤ 3072) (i0 : 0 ≤ i) (i1 : i + 6 ≤ E.1.2.1) (h : iv S k) (hk : k ≤ 1000) : lw_st E B n i k c (mm_r282_1664 E (lw_cl E) (n + 9) E.1.1 (mm_ad B 0) (mm_ad B 101) (mm_ad B 123) (mm_i i) o5 o6 (mm_hp B S c)) := by
  have ok := i_chain (E := E) (d := 100) (B := B) h (by omega) (lw_n (E.1.2.2 (i + 1).toNat)) (lw_n (E.1.2.2 (i + 2).toNat))
  simp only [mm_i_of] at ok
  obtain ⟨q, b, S1, S2, c2, t1, t2, t3, t4, t5, t6, t7⟩ := lw_try (E := E) (B := B) (W := 280) (c := c) (ws := [.ref (mm_ad B 0), .int (E.1.2.2 (i + 1).toNat), .int (E.1.2.2 (i + 2).toNat), .ref (mm_ad B 123)]) (mm_v280 (by omega) (fun F e hF he => by
    obtain rfl : e = 100 := by omega
    exact mm_e280_0 E (mm_ev E 100) (F + 99) (mm_ad B 0) (E.1.2.2 (i + 1).toNat) (E.1.2.2 (i + 2).toNat) (mm_ad B 123) (mm_hp B S c))) lw_h1 ok
  rw [mm_e282_1664]
  simp only [mm_hm]
  rw [lw_rd hE (by omega) (by omega) hL, lw_rd hE (by omega) (by omega) hL, lw_hi E 280 (by omega), t1, mm_cI_ok, mm_e282_1683]
  simp only [mm_hm]
  rw [lw_rd hE (by omega) (by omega) hL, lw_rd hE (by omega) (by omega) hL, lw_lo E 224 (by omega), t2, mm_cI_ok, lw_lo E 145 (by omega), c_thrown (by omega), mm_cI_ok, t3, mm_br_t rfl, mm_e282_1717]
  by_cases z : q = mm_i 0
  · rw [mm_br_t z, mm_prJ (n := 1) rfl (by omega) (by omega) (by omega), t7 z, lw_cmp, mm_br_t rfl]
    exact lw_less (lw_end t4 t5 t6) (by omega)
  · rw [mm_br_f z]
    exact lw_less (lw_end t4 t5 t6) (by omega)
theorem lw_frontier (hE : pp_OE E B) (hL : E.1.2.1 ≤ 3072) (i0 : 0 ≤ i) (i1 : i + 6 ≤ E.1.2.1) (h : iv S k) (hk : k ≤ 1000) : lw_st E B n i k c (mm_r282_1732 E (lw_cl E) (n + 9) E.1.1 (mm_ad B 0) (mm_ad B 101) (mm_ad B 123) (mm_i i) o5 o6 (mm_hp B S c)) := by
  have ok := i_frontier (E := E) (d := 100) (B := B) h hk (by omega) (lw_n (E.1.2.2 (i + 1).toNat))
  simp only [mm_i_of] at ok
  obtain ⟨q, b, S1, S2, c2, t1, t2, t3, t4, t5, t6, t7⟩ := lw_try (E := E) (B := B) (W := 281) (c := c) (ws := [.ref (mm_ad B 0), .int (E.1.2.2 (i + 1).toNat), .ref (mm_ad B 123)]) (mm_v281 (by omega) (fun F e hF he => by
    obtain rfl : e = 100 := by omega
    exact mm_e281_0 E (mm_ev E 100) (F + 99) (mm_ad B 0) (E.1.2.2 (i + 1).toNat) (mm_ad B 123) (mm_hp B S c))) lw_h1 ok
  rw [mm_e282_1732]
  simp only [mm_hm]
  rw [lw_rd hE (by omega) (by omega) hL, lw_hi E 281 (by omega), t1, mm_cI_ok, lw_rd hE (by omega) (by omega) hL, lw_lo E 213 (by omega), t2, mm_cI_ok, lw_lo E 145 (by omega), c_thrown (by omega), mm_cI_ok, t3, mm_br_t rfl, mm_e282_1768, lw_out t7]
  exact lw_less (lw_end t4 t5 t6) (by omega)
theorem lw_image (hE : pp_OE E B) (hL : E.1.2.1 ≤ 3072) (i0 : 0 ≤ i) (i1 : i + 6 ≤ E.1.2.1) (h : iv S k) (hk : k ≤ 1000) : lw_st E B n i k c (mm_r282_1788 E (lw_cl E) (n + 9) E.1.1 (mm_ad B 0) (mm_ad B 101) (mm_ad B 123) (mm_i i) o5 o6 (mm_hp B S c)) := by
  obtain ⟨S1, S2, t1, t2, t3⟩ := i_image (E := E) (d := 100) (B := B) h (by omega) c
  rw [mm_e282_1788, lw_lo E 130 (by omega), t1, mm_cV_ok, lw_lo E 226 (by omega), t2, mm_cV_ok]
  exact lw_less (lw_end t3 (by omega) (by omega)) (by omega)
theorem lw_back (hE : pp_OE E B) (hL : E.1.2.1 ≤ 3072) (i0 : 0 ≤ i) (i1 : i + 6 ≤ E.1.2.1) (h : iv S k) (hk : k ≤ 1000) : lw_st E B n i k c (mm_r282_1799 E (lw_cl E) (n + 9) E.1.1 (mm_ad B 0) (mm_ad B 101) (mm_ad B 123) (mm_i i) o5 o6 (mm_hp B S c)) := by
  obtain ⟨S1, S2, v, t1, t2, t3⟩ := i_back (E := E) (d := 100) (B := B) h (by omega) c
  rw [mm_e282_1799, lw_lo E 131 (by omega), t1, mm_cI_ok, lw_lo E 227 (by omega), t2, mm_cI_ok, mm_br_t rfl]
  exact lw_less (lw_end t3 (by omega) (by omega)) (by omega)
end