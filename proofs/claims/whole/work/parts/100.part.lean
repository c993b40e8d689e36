/-! ONE PART: what hangs together, both -/
/-- nothing leads out of p -/
def pp_cl (W : pp_W) (p : Int → Bool) : Prop := ∀ u v : Int, (W u v = true ∨ W v u = true) → p u = true → p v = true
noncomputable def pp_cb (W : pp_W) (x : Int) : Int → Bool := fun y => @decide (pp_cn W x y) (Classical.propDecidable _)
theorem pp_cb_t {W : pp_W} {x y : Int} : pp_cb W x y = true ↔ pp_cn W x y := @decide_eq_true_iff _ (Classical.propDecidable _)
theorem pp_cb_cl (W : pp_W) (x : Int) : pp_cl W (pp_cb W x) := fun u v e h => pp_cb_t.mpr (pp_cn_st (pp_cb_t.mp h) e)
section PART
variable {E : mm_E} {d B : Nat} {S : mm_S} {c : mm_N} {a : Nat}
/-- one round -/
theorem l_partIn (hd : 1 ≤ d) (ha : a = 3 ∨ a = 14 ∨ a = 25) (hN : pp_NK S a) (hG : pp_GK S a) {x1 x2 rd : Int32} : ∀ (j k n : Nat) (p : Int), (S.I a 10).toNat = k + j → j < n → 0 ≤ p → p < 4096 → ∃ (m : Nat) (q : Int) (o : Option Value), n ≤ m + j + 1 ∧ 0 ≤ q ∧ q < 4096 ∧ (∀ t : Int, mm_bt p t = true → mm_bt q t = true) ∧ (∀ C : Int → Bool, pp_cl (pp_Wf (S.I a 10) (S.A (a + 3))) C → (∀ t : Int, 0 ≤ t → mm_bt p t = true → C t = true) → ∀ t : Int, 0 ≤ t → mm_bt q t = true → C t = true) ∧ (∀ u v : Int, (k : Int) ≤ u → (pp_Wf (S.I a 10) (S.A (a + 3)) u v = true ∨ pp_Wf (S.I a 10) (S.A (a + 3)) v u = true) → mm_bt p u = true → mm_bt q v = true)
    ∧ mm_r40_19 E (mm_ev E d) n (mm_ad B a) x1 x2 (mm_i p) rd (mm_i k) (mm_hp B S c) = mm_r40_7 E (mm_ev E d) m (mm_ad B a) x1 x2 (mm_i q) (rd + mm_i 1) o (mm_hp B S c) := by
  have hn := hN.1
  intro j
  induction j with
  | zero =>
    intro k n p hk hj p0 p1
    obtain ⟨n, rfl⟩ : ∃ m, n = m + 1 := ⟨n - 1, by omega⟩
    refine ⟨n, p, some (.int (mm_i k)), by omega, p0, p1, fun t h => h, fun C _ h => h, fun u v hu e _ => ?_, ?_⟩
    · rcases e with e | e
      · have := pp_Wf_in _ _ _ _ e; omega
      · have := pp_Wf_in _ _ _ _ e; omega
    · rw [mm_e40_19]
      simp (disch := omega) only [mm_ptN, mm_br_le]
      rw [if_pos (by omega)]
  | succ j ih =>
    intro k n p hk hj p0 p1
    obtain ⟨n, rfl⟩ : ∃ m, n = m + 1 := ⟨n - 1, by omega⟩
    have b3 := hN.2.2.1 k (by omega) (by omega)
    have b4 := hN.2.2.2.1 k (by omega) (by omega)
    have nb : ∀ v : Int, 0 ≤ v → (mm_bt (mm_ior (S.A (a + 3) k) (S.A (a + 4) k)) v = true ↔ (pp_Wf (S.I a 10) (S.A (a + 3)) k v = true ∨ pp_Wf (S.I a 10) (S.A (a + 3)) v k = true)) := fun v v0 => by
      rw [mm_bt_or, Bool.or_eq_true]
      by_cases v12 : v < 12
      · have e1 : mm_bt (S.A (a + 3) k) v = true ↔ pp_Wf (S.I a 10) (S.A (a + 3)) v k = true := by
          constructor
          · intro z
            have g := hG.1 v k v0 v12 (by omega) (by omega) z
            rw [pp_Wf_eq ⟨v0, g.1, by omega, g.2⟩]; exact z
          · intro z
            have g := pp_Wf_in _ _ _ _ z
            rw [pp_Wf_eq g] at z; exact z
        have e2 : mm_bt (S.A (a + 4) k) v = true ↔ pp_Wf (S.I a 10) (S.A (a + 3)) k v = true := by
          rw [hG.2.1 k v (by omega) (by omega) v0 v12]
          constructor
          · intro z
            have g := hG.1 k v (by omega) (by omega) v0 v12 z
            rw [pp_Wf_eq ⟨by omega, g.1, v0, g.2⟩]; exact z
          · intro z
            have g := pp_Wf_in _ _ _ _ z
            rw [pp_Wf_eq g] at z; exact z
        rw [e1, e2]
        exact or_comm
      · rw [mm_bt_lt b3.2 (by omega), mm_bt_lt b4.2 (by omega)]
        constructor
        · rintro (z | z) <;> cases z
        · rintro (z | z)
          · have := pp_Wf_in _ _ _ _ z; omega
          · have := pp_Wf_in _ _ _ _ z; omega
    rw [mm_e40_19]
    simp (disch := omega) only [mm_ptN, mm_br_le, c_has, mm_hm, mm_br_b1]
    rw [if_neg (by omega)]
    by_cases f : mm_bt p k = true
    · rw [if_pos f]
      have z := mm_ior_nn (S.A (a + 3) k) (S.A (a + 4) k)
      simp (disch := omega) only [mm_i_or]
      obtain ⟨m, q, o, q1, q2, q3, q4, q5, q6, q7⟩ := ih (k + 1) n (mm_ior p (mm_ior (S.A (a + 3) k) (S.A (a + 4) k))) (by omega) (by omega) (mm_ior_nn _ _) (mm_ior_lt p1 (mm_ior_lt b3.2 b4.2))
      rw [Int.natCast_add, Int.natCast_one] at q6 q7
      refine ⟨m, q, o, by omega, q2, q3, fun t h => q4 t (by rw [mm_bt_or, h]; rfl), fun C hC h => q5 C hC (fun t t0 ht => ?_), fun u v hu e h => ?_, q7⟩
      · rw [mm_bt_or, Bool.or_eq_true] at ht
        rcases ht with ht | ht
        · exact h t t0 ht
        · exact hC k t ((nb t t0).mp ht) (h k (by omega) f)
      · by_cases e2 : u = k
        · rw [e2] at e
          have v0 : 0 ≤ v := by
            rcases e with e | e
            · exact (pp_Wf_in _ _ _ _ e).2.2.1
            · exact (pp_Wf_in _ _ _ _ e).1
          exact q4 v (by rw [mm_bt_or, (nb v v0).mpr e, Bool.or_true])
        · exact q6 u v (by omega) e (by rw [mm_bt_or, h]; rfl)
    · rw [if_neg f]
      simp (disch := omega) only [mm_i_or, pp_ior0]
      obtain ⟨m, q, o, q1, q2, q3, q4, q5, q6, q7⟩ := ih (k + 1) n p (by omega) (by omega) p0 p1
      rw [Int.natCast_add, Int.natCast_one] at q6 q7
      refine ⟨m, q, o, by omega, q2, q3, q4, q5, fun u v hu e h => ?_, q7⟩
      by_cases e2 : u = k
      · rw [e2] at h; exact absurd h f
      · exact q6 u v (by omega) e h
theorem l_partOut {x y : Int} (hd : 1 ≤ d) (ha : a = 3 ∨ a = 14 ∨ a = 25) (hN : pp_NK S a) (hG : pp_GK S a) (x0 : 0 ≤ x) (x1 : x < S.I a 10) (y0 : 0 ≤ y) (y1 : y < S.I a 10) : ∀ (j n : Nat) (rd p : Int) (o : Option Value), 0 ≤ rd → rd + j = S.I a 10 → 20 * (j + 1) < n → 0 ≤ p → p < 4096 → mm_bt p x = true → (∀ t : Int, 0 ≤ t → mm_bt p t = true → pp_cn (pp_Wf (S.I a 10) (S.A (a + 3))) x t) → (pp_cl (pp_Wf (S.I a 10) (S.A (a + 3))) (fun t => mm_bt p t && decide (0 ≤ t)) ∨ rd + 1 ≤ mm_cnt (mm_bt p) (S.I a 10).toNat) → mm_r40_7 E (mm_ev E d) n (mm_ad B a) (mm_i x) (mm_i y) (mm_i p) (mm_i rd) o (mm_hp B S c) = mm_oI (mm_b1 (pp_cb (pp_Wf (S.I a 10) (S.A (a + 3))) x y)) (mm_hp B S c) := by
  have hn := hN.1
  intro j
  induction j with
  | zero =>
    intro n rd p o r0 hr hj p0 p1 px hI hP
    obtain ⟨n, rfl⟩ : ∃ m, n = m + 1 := ⟨n - 1, by omega⟩
    have z := mm_cnt_nn (mm_bt p) (S.I a 10).toNat
    have cl : pp_cl (pp_Wf (S.I a 10) (S.A (a + 3))) (fun t => mm_bt p t && decide (0 ≤ t)) := by
      rcases hP with hP | hP
      · exact hP
      · omega
    have e : mm_bt p y = pp_cb (pp_Wf (S.I a 10) (S.A (a + 3))) x y := by
      cases h1 : mm_bt p y with
      | true => exact (pp_cb_t.mpr (hI y y0 h1)).symm
      | false => cases h2 : pp_cb (pp_Wf (S.I a 10) (S.A (a + 3))) x y with
        | false => rfl
        | true =>
          have g := pp_cb_t.mp h2 (fun t => (mm_bt p t && decide (0 ≤ t)) = true) (by rw [px, decide_eq_true x0]; rfl) (fun u v e hu => cl u v e hu)
          have g := (Bool.and_eq_true_iff.mp g).1
          rw [h1] at g; cases g
    rw [mm_e40_7]
    simp (disch := omega) only [mm_ptN, mm_br_le]
    rw [if_pos (by omega), c_has hd p0 y0 (by omega), mm_cI_ok, mm_bz_b1, e]
  | succ j ih =>
    intro n rd p o r0 hr hj p0 p1 px hI hP
    obtain ⟨n, rfl⟩ : ∃ m, n = m + 1 := ⟨n - 1, by omega⟩
    obtain ⟨m, q, o', q1, q2, q3, q4, q5, q6, q7⟩ := l_partIn (E := E) (d := d) (B := B) (S := S) (c := c) (x1 := mm_i x) (x2 := mm_i y) (rd := mm_i rd) hd ha hN hG (S.I a 10).toNat 0 n p (by omega) (by omega) p0 p1
    have q7 : mm_r40_19 E (mm_ev E d) n (mm_ad B a) (mm_i x) (mm_i y) (mm_i p) (mm_i rd) (mm_i 0) (mm_hp B S c) = _ := q7
    rw [mm_e40_7]
    simp (disch := omega) only [mm_ptN, mm_br_le]
    rw [if_neg (by omega), q7, mm_i_add]
    refine ih m (rd + 1) q o' (by omega) (by omega) (by omega) q2 q3 (q4 x px) (fun t t0 ht => pp_cb_t.mp (q5 _ (pp_cb_cl _ x) (fun t t0 ht => pp_cb_t.mpr (hI t t0 ht)) t t0 ht)) ?_
    have nn : ∀ u v : Int, (pp_Wf (S.I a 10) (S.A (a + 3)) u v = true ∨ pp_Wf (S.I a 10) (S.A (a + 3)) v u = true) → 0 ≤ u ∧ u < S.I a 10 ∧ 0 ≤ v ∧ v < S.I a 10 := fun u v e => by
      rcases e with e | e
      · have := pp_Wf_in _ _ _ _ e; omega
      · have := pp_Wf_in _ _ _ _ e; omega
    by_cases cl : pp_cl (pp_Wf (S.I a 10) (S.A (a + 3))) (fun t => mm_bt p t && decide (0 ≤ t))
    · left
      have same : ∀ t : Int, 0 ≤ t → mm_bt q t = true → mm_bt p t = true := fun t t0 ht => (Bool.and_eq_true_iff.mp (q5 _ cl (fun t t0 ht => by rw [ht, decide_eq_true t0]; rfl) t t0 ht)).1
      intro u v e hu
      have g := nn u v e
      have hu := (Bool.and_eq_true_iff.mp hu).1
      have w := cl u v e (by show (mm_bt p u && decide (0 ≤ u)) = true; rw [same u g.1 hu, decide_eq_true g.1]; rfl)
      have w := (Bool.and_eq_true_iff.mp w).1
      show (mm_bt q v && decide (0 ≤ v)) = true
      rw [q4 v w, decide_eq_true g.2.2.1]; rfl
    · right
      have ex : ∃ u v : Int, (pp_Wf (S.I a 10) (S.A (a + 3)) u v = true ∨ pp_Wf (S.I a 10) (S.A (a + 3)) v u = true) ∧ mm_bt p u = true ∧ mm_bt p v = false := by
        by_cases ex : ∃ u v : Int, (pp_Wf (S.I a 10) (S.A (a + 3)) u v = true ∨ pp_Wf (S.I a 10) (S.A (a + 3)) v u = true) ∧ mm_bt p u = true ∧ mm_bt p v = false
        · exact ex
        · refine absurd (fun u v e hu => ?_) cl
          have g := nn u v e
          have hu := (Bool.and_eq_true_iff.mp hu).1
          show (mm_bt p v && decide (0 ≤ v)) = true
          cases h : mm_bt p v with
          | true => rw [decide_eq_true g.2.2.1]; rfl
          | false => exact absurd ⟨u, v, e, hu, h⟩ ex
      obtain ⟨u, v, e, hu, hv⟩ := ex
      have g := nn u v e
      have r := pp_cnt_lt (p := mm_bt p) (q := mm_bt q) (s := v) (S.I a 10).toNat (fun i _ _ h => q4 i h) g.2.2.1 (by omega) hv (q6 u v (by omega) e hu)
      rcases hP with hP | hP
      · exact absurd hP cl
      · omega
theorem c_inOnePart {x y : Int} (hd : 2 ≤ d) (ha : a = 3 ∨ a = 14 ∨ a = 25) (hN : pp_NK S a) (hG : pp_GK S a) (x0 : 0 ≤ x) (x1 : x < S.I a 10) (y0 : 0 ≤ y) (y1 : y < S.I a 10) : mm_ev E d 40 [.ref (mm_ad B a), .int (mm_i x), .int (mm_i y)] (mm_hp B S c) = mm_oI (mm_b1 (pp_cb (pp_Wf (S.I a 10) (S.A (a + 3))) x y)) (mm_hp B S c) := by
  refine mm_v40 ha (by omega) (fun F e hF he => ?_)
  have hn := hN.1
  have px : mm_bt (mm_pw x) x = true := by rw [mm_bt_pw x0 x0]; simp
  rw [mm_e40_0, mm_i_shl x0 (by omega)]
  refine l_partOut (by omega) ha hN hG x0 x1 y0 y1 (S.I a 10).toNat (F + 99) 0 (mm_pw x) none (by omega) (by omega) (by omega) (mm_pw_nn x) (mm_pw_lt (by omega)) px (fun t t0 ht => ?_) (Or.inr ?_)
  · rw [mm_bt_pw x0 t0] at ht
    rw [of_decide_eq_true ht]
    exact pp_cn_rf _ x
  · have c := pp_cnt_lt (p := fun _ => false) (q := mm_bt (mm_pw x)) (s := x) (S.I a 10).toNat (fun i _ _ z => by cases z) x0 (by omega) rfl px
    have z := (mm_cnt_nn (fun _ => false) (S.I a 10).toNat).1
    omega
-- the model's
theorem l_partM1 {r : Nat} (hr : mm_sh r = some (.inr (.inl 190))) (hd : 1 ≤ d) (hR : pp_RO (S.A r)) {x1 : Int32} : ∀ (j k n : Nat) (p mo : Int) (o5 o6 : Option Value), (S.A r 2).toNat = k + j → 2 * j < n → 0 ≤ p → p < 4096 → (mo = 0 ∨ mo = 1) → ∃ (m : Nat) (q mo' : Int) (o4 o5' o6' : Option Value), n ≤ m + 2 * j + 1 ∧ 0 ≤ q ∧ q < 4096 ∧ (mo' = 0 ∨ mo' = 1) ∧ (∀ t : Int, mm_bt p t = true → mm_bt q t = true) ∧ (∀ C : Int → Bool, pp_cl (pp_Wr (S.A r)) C → (∀ t : Int, 0 ≤ t → mm_bt p t = true → C t = true) → ∀ t : Int, 0 ≤ t → mm_bt q t = true → C t = true) ∧ (mo' = 0 → mo = 0 ∧ q = p ∧ ∀ l : Int, (k : Int) ≤ l → l < S.A r 2 → mm_bt p (S.A r (159 + 2 * l)) = mm_bt p (S.A r (159 + 2 * l + 1))) ∧ (mo' = 1 → mo = 1 ∨ ∃ t : Int, 0 ≤ t ∧ t < S.A r 0 ∧ mm_bt p t = false ∧ mm_bt q t = true)
    ∧ mm_r161_15 E (mm_ev E d) n (mm_ad B r) x1 (mm_i p) (mm_i mo) (mm_i k) o5 o6 (mm_hp B S c) = mm_r161_6 E (mm_ev E d) m (mm_ad B r) x1 (mm_i q) (mm_i mo') o4 o5' o6' (mm_hp B S c) := by
  have hn := hR.1
  have hm := hR.2.2.1
  intro j
  induction j with
  | zero =>
    intro k n p mo o5 o6 hk hj p0 p1 hmo
    obtain ⟨n, rfl⟩ : ∃ q, n = q + 1 := ⟨n - 1, by omega⟩
    refine ⟨n, p, mo, some (.int (mm_i k)), o5, o6, by omega, p0, p1, hmo, fun t h => h, fun C _ h => h, fun h => ⟨h, rfl, fun l l1 l2 => by omega⟩, fun h => Or.inl h, ?_⟩
    rw [mm_e161_15, mm_prI hr (by omega) (by omega) (by omega), mm_br_le (by omega) (by omega) (by omega) (by omega), if_pos (by omega)]
  | succ j ih =>
    intro k n p mo o5 o6 hk hj p0 p1 hmo
    obtain ⟨n, rfl⟩ : ∃ q, n = q + 2 := ⟨n - 2, by omega⟩
    have g := hR.2.2.2.1 k (by omega) (by omega)
    have edge : pp_Wr (S.A r) (S.A r (159 + 2 * (k : Int))) (S.A r (159 + 2 * (k : Int) + 1)) = true := by
      rw [pp_Wr_bt ⟨g.1, g.2.1, g.2.2.1, g.2.2.2⟩, mm_sup_bt (pp_RO_PR hR) g.1]
      exact ⟨k, by omega, by omega, rfl, rfl⟩
    rw [mm_e161_15, mm_prI hr (by omega) (by omega) (by omega), mm_br_le (by omega) (by omega) (by omega) (by omega), if_neg (by omega)]
    simp only [mm_hm]
    rw [mm_prI hr (by omega) (by omega) (by omega), mm_prI hr (by omega) (by omega) (by omega), mm_e161_49, c_isOf hd p0 g.1 (by omega), mm_cI_ok, c_isOf hd p0 g.2.2.1 (by omega), mm_cI_ok]
    have br : ∀ (b1 b2 : Bool) (X Y : mm_R), mm_br (mm_i (mm_b1 b1) = mm_i (mm_b1 b2)) X Y = if b1 = b2 then X else Y := fun b1 b2 X Y => by
      have r1 := mm_b1_01 b1
      have r2 := mm_b1_01 b2
      rw [mm_br_eq (by omega) (by omega) (by omega) (by omega)]
      cases b1 <;> cases b2 <;> rfl
    rw [br]
    by_cases f : mm_bt p (S.A r (159 + 2 * (k : Int))) = mm_bt p (S.A r (159 + 2 * (k : Int) + 1))
    · rw [if_pos f]
      simp only [mm_hm]
      obtain ⟨m, q, mo', o4, o5', o6', q1, q2, q3, q4, q5, q6, q7, q8, q9⟩ := ih (k + 1) n p mo (some (.int (mm_i (S.A r (159 + 2 * (k : Int)))))) (some (.int (mm_i (S.A r (159 + 2 * (k : Int) + 1))))) (by omega) (by omega) p0 p1 hmo
      rw [Int.natCast_add, Int.natCast_one] at q7 q9
      refine ⟨m, q, mo', o4, o5', o6', by omega, q2, q3, q4, q5, q6, fun h => ?_, q8, q9⟩
      obtain ⟨w1, w2, w3⟩ := q7 h
      refine ⟨w1, w2, fun l l1 l2 => ?_⟩
      by_cases e : l = k
      · rw [e]; exact f
      · exact w3 l (by omega) l2
    · rw [if_neg f, mm_i_shl g.1 (by omega), mm_i_shl g.2.2.1 (by omega), mm_i_or (mm_pw_nn _) (mm_pw_nn _), mm_i_or p0 (mm_ior_nn _ _)]
      simp only [mm_hm]
      have bt2 : ∀ t : Int, 0 ≤ t → mm_bt (mm_ior p (mm_ior (mm_pw (S.A r (159 + 2 * (k : Int)))) (mm_pw (S.A r (159 + 2 * (k : Int) + 1))))) t = (mm_bt p t || (decide (t = S.A r (159 + 2 * (k : Int))) || decide (t = S.A r (159 + 2 * (k : Int) + 1)))) := fun t t0 => by
        rw [mm_bt_or, mm_bt_or, mm_bt_pw g.1 t0, mm_bt_pw g.2.2.1 t0]
      obtain ⟨m, q, mo', o4, o5', o6', q1, q2, q3, q4, q5, q6, q7, q8, q9⟩ := ih (k + 1) n (mm_ior p (mm_ior (mm_pw (S.A r (159 + 2 * (k : Int)))) (mm_pw (S.A r (159 + 2 * (k : Int) + 1))))) 1 (some (.int (mm_i (S.A r (159 + 2 * (k : Int)))))) (some (.int (mm_i (S.A r (159 + 2 * (k : Int) + 1))))) (by omega) (by omega) (mm_ior_nn _ _) (mm_ior_lt p1 (mm_ior_lt (mm_pw_lt (by omega)) (mm_pw_lt (by omega)))) (Or.inr rfl)
      rw [Int.natCast_add, Int.natCast_one] at q7 q9
      refine ⟨m, q, mo', o4, o5', o6', by omega, q2, q3, q4, fun t h => q5 t (by rw [mm_bt_or, h]; rfl), fun C hC h => q6 C hC (fun t t0 ht => ?_), fun h => ?_, fun h => Or.inr ?_, q9⟩
      · rw [bt2 t t0, Bool.or_eq_true, Bool.or_eq_true] at ht
        rcases ht with ht | ht | ht
        · exact h t t0 ht
        · rw [of_decide_eq_true ht]
          cases e2 : mm_bt p (S.A r (159 + 2 * (k : Int))) with
          | true => exact h _ g.1 e2
          | false =>
            have e3 : mm_bt p (S.A r (159 + 2 * (k : Int) + 1)) = true := by
              cases e4 : mm_bt p (S.A r (159 + 2 * (k : Int) + 1)) with
              | true => rfl
              | false => rw [e2, e4] at f; exact absurd rfl f
            exact hC _ _ (Or.inr edge) (h _ g.2.2.1 e3)
        · rw [of_decide_eq_true ht]
          cases e2 : mm_bt p (S.A r (159 + 2 * (k : Int) + 1)) with
          | true => exact h _ g.2.2.1 e2
          | false =>
            have e3 : mm_bt p (S.A r (159 + 2 * (k : Int))) = true := by
              cases e4 : mm_bt p (S.A r (159 + 2 * (k : Int))) with
              | true => rfl
              | false => rw [e2, e4] at f; exact absurd rfl f
            exact hC _ _ (Or.inl edge) (h _ g.1 e3)
      · have := (q7 h).1
        omega
      · cases e2 : mm_bt p (S.A r (159 + 2 * (k : Int))) with
        | false => exact ⟨_, g.1, g.2.1, e2, q5 _ (by rw [bt2 _ g.1, decide_eq_true rfl]; simp)⟩
        | true =>
          refine ⟨_, g.2.2.1, g.2.2.2, ?_, q5 _ (by rw [bt2 _ g.2.2.1, decide_eq_true rfl]; simp)⟩
          cases e4 : mm_bt p (S.A r (159 + 2 * (k : Int) + 1)) with
          | false => rfl
          | true => rw [e2, e4] at f; exact absurd rfl f
theorem l_partM2 {r : Nat} {x : Int} (hr : mm_sh r = some (.inr (.inl 190))) (hd : 1 ≤ d) (hR : pp_RO (S.A r)) (x0 : 0 ≤ x) (x2 : x < S.A r 0) {x1 : Int32} : ∀ (j n : Nat) (p : Int) (o4 o5 o6 : Option Value), S.A r 0 ≤ mm_cnt (mm_bt p) (S.A r 0).toNat + j → 40 * (j + 1) < n → 0 ≤ p → p < 4096 → mm_bt p x = true → (∀ t : Int, 0 ≤ t → mm_bt p t = true → pp_cn (pp_Wr (S.A r)) x t) → ∃ q : Int, (0 ≤ q ∧ q < 4096) ∧ (∀ t : Int, 0 ≤ t → mm_bt q t = pp_cb (pp_Wr (S.A r)) x t) ∧ mm_r161_6 E (mm_ev E d) n (mm_ad B r) x1 (mm_i p) (mm_i 1) o4 o5 o6 (mm_hp B S c) = mm_oI q (mm_hp B S c) := by
  have hn := hR.1
  have hm := hR.2.2.1
  intro j
  induction j with
  | zero =>
    intro n p o4 o5 o6 hj hn2 p0 p1 px hI
    obtain ⟨n, rfl⟩ : ∃ q, n = q + 1 := ⟨n - 1, by omega⟩
    obtain ⟨m, q, mo', o4', o5', o6', q1, q2, q3, q4, q5, q6, q7, q8, q9⟩ := l_partM1 (E := E) (d := d) (B := B) (S := S) (c := c) (x1 := x1) hr hd hR (S.A r 2).toNat 0 n p 0 o5 o6 (by omega) (by omega) p0 p1 (Or.inl rfl)
    have q9 : mm_r161_15 E (mm_ev E d) n (mm_ad B r) x1 (mm_i p) (mm_i 0) (mm_i 0) o5 o6 (mm_hp B S c) = _ := q9
    rw [mm_e161_6, mm_br_eq (by omega) (by omega) (by omega) (by omega), if_neg (by omega), q9]
    -- nothing more can come
    have z := mm_cnt_nn (mm_bt p) (S.A r 0).toNat
    have al := pp_cnt_all (p := mm_bt p) (S.A r 0).toNat (by omega)
    have mo0 : mo' = 0 := by
      rcases q4 with h | h
      · exact h
      · rcases q8 h with h2 | ⟨t, t1, t2, t3, t4⟩
        · omega
        · rw [al t t1 (by omega)] at t3; cases t3
    obtain ⟨w1, w2, w3⟩ := q7 mo0
    obtain ⟨m, rfl⟩ : ∃ q, m = q + 1 := ⟨m - 1, by omega⟩
    rw [mm_e161_6, mo0, mm_br_t rfl, w2]
    refine ⟨p, ⟨p0, p1⟩, fun t t0 => ?_, rfl⟩
    by_cases t2 : t < S.A r 0
    · rw [al t t0 (by omega)]
      exact (pp_cb_t.mpr (hI t t0 (al t t0 (by omega)))).symm
    · cases h1 : mm_bt p t with
      | true => exact (pp_cb_t.mpr (hI t t0 h1)).symm
      | false => cases h2 : pp_cb (pp_Wr (S.A r)) x t with
        | false => rfl
        | true =>
          rcases pp_cn_in (pp_Wr_in (S.A r)) (pp_cb_t.mp h2) with e | e
          · rw [← e, px] at h1; cases h1
          · omega
  | succ j ih =>
    intro n p o4 o5 o6 hj hn2 p0 p1 px hI
    obtain ⟨n, rfl⟩ : ∃ q, n = q + 1 := ⟨n - 1, by omega⟩
    obtain ⟨m, q, mo', o4', o5', o6', q1, q2, q3, q4, q5, q6, q7, q8, q9⟩ := l_partM1 (E := E) (d := d) (B := B) (S := S) (c := c) (x1 := x1) hr hd hR (S.A r 2).toNat 0 n p 0 o5 o6 (by omega) (by omega) p0 p1 (Or.inl rfl)
    have q9 : mm_r161_15 E (mm_ev E d) n (mm_ad B r) x1 (mm_i p) (mm_i 0) (mm_i 0) o5 o6 (mm_hp B S c) = _ := q9
    rw [mm_e161_6, mm_br_eq (by omega) (by omega) (by omega) (by omega), if_neg (by omega), q9]
    rcases q4 with mo0 | mo1
    · obtain ⟨w1, w2, w3⟩ := q7 mo0
      obtain ⟨m, rfl⟩ : ∃ q, m = q + 1 := ⟨m - 1, by omega⟩
      rw [mm_e161_6, mo0, mm_br_t rfl, w2]
      have cl : pp_cl (pp_Wr (S.A r)) (fun t => mm_bt p t) := by
        intro u v e hu
        have key : ∀ u v, pp_Wr (S.A r) u v = true → mm_bt p u = mm_bt p v := fun u v e => by
          have g := pp_Wr_in (S.A r) u v e
          rw [pp_Wr_bt g, mm_sup_bt (pp_RO_PR hR) g.1] at e
          obtain ⟨l, l1, l2, l3, l4⟩ := e
          have w := w3 l (by omega) l2
          rw [l3, l4] at w
          exact w
        have hu : mm_bt p u = true := hu
        show mm_bt p v = true
        rcases e with e | e
        · rw [← key u v e]; exact hu
        · rw [key v u e]; exact hu
      refine ⟨p, ⟨p0, p1⟩, fun t t0 => ?_, rfl⟩
      cases h1 : mm_bt p t with
      | true => exact (pp_cb_t.mpr (hI t t0 h1)).symm
      | false => cases h2 : pp_cb (pp_Wr (S.A r)) x t with
        | false => rfl
        | true =>
          have g := pp_cb_t.mp h2 (fun t => mm_bt p t = true) px (fun u v e hu => cl u v e hu)
          have g : mm_bt p t = true := g
          rw [h1] at g; cases g
    · rcases q8 mo1 with h2 | ⟨t, t1, t2, t3, t4⟩
      · omega
      · have g := pp_cnt_lt (p := mm_bt p) (q := mm_bt q) (s := t) (S.A r 0).toNat (fun i _ _ h => q5 i h) t1 (by omega) t3 t4
        rw [mo1]
        exact ih m q o4' o5' o6' (by omega) (by omega) q2 q3 (q5 x px) (fun t t0 ht => pp_cb_t.mp (q6 _ (pp_cb_cl _ x) (fun t t0 ht => pp_cb_t.mpr (hI t t0 ht)) t t0 ht))
theorem m_partOf {r : Nat} {x : Int} (hr : mm_sh r = some (.inr (.inl 190))) (hd : 2 ≤ d) (hR : pp_RO (S.A r)) (x0 : 0 ≤ x) (x2 : x < S.A r 0) : ∃ q : Int, (0 ≤ q ∧ q < 4096) ∧ (∀ t : Int, 0 ≤ t → mm_bt q t = pp_cb (pp_Wr (S.A r)) x t) ∧ mm_ev E d 161 [.ref (mm_ad B r), .int (mm_i x)] (mm_hp B S c) = mm_oI q (mm_hp B S c) := by
  obtain ⟨e, rfl⟩ : ∃ e, d = e + 1 := ⟨d - 1, by omega⟩
  obtain ⟨F, hF, h⟩ := mm_w161 E e B S c (mm_ad B r) (mm_i x)
  have hn := hR.1
  have z := mm_cnt_nn (mm_bt (mm_pw x)) (S.A r 0).toNat
  have px : mm_bt (mm_pw x) x = true := by rw [mm_bt_pw x0 x0]; simp
  obtain ⟨q, q1, q2, q3⟩ := l_partM2 (E := E) (d := e) (B := B) (S := S) (c := c) (x := x) (x1 := mm_i x) hr (by omega) hR x0 x2 12 (F + 99) (mm_pw x) none none none (by omega) (by omega) (mm_pw_nn x) (mm_pw_lt (by omega)) px (fun t t0 ht => by
    rw [mm_bt_pw x0 t0] at ht
    rw [of_decide_eq_true ht]
    exact pp_cn_rf _ x)
  refine ⟨q, q1, q2, ?_⟩
  rw [h, mm_e161_0, mm_i_shl x0 (by omega)]
  exact q3
end PART
