/-! ROWS OF THE MODEL: what a network is, stages and supplies added -/
def pp_Wr (f : Int → Int) : pp_W := pp_Wf (f 0) (mm_sup f)
/-- what hangs together has one sign; there are n less m signs -/
def pp_CM (n m : Int) (W : pp_W) : Prop := ∃ rep : Int → Int, (∀ i : Int, 0 ≤ i → i < n → 0 ≤ rep i ∧ rep i < n ∧ rep (rep i) = rep i) ∧ (∀ i j : Int, 0 ≤ i → i < n → 0 ≤ j → j < n → (rep i = rep j ↔ pp_cn W i j)) ∧ mm_cnt (fun v => decide (rep v = v)) n.toNat = n - m
/-- a network, as a row of the model tells it -/
def pp_RO (f : Int → Int) : Prop := (0 ≤ f 0 ∧ f 0 ≤ 12) ∧ (0 ≤ f 1 ∧ f 1 ≤ 400) ∧ (0 ≤ f 2 ∧ f 2 ≤ 11) ∧ (∀ l : Int, 0 ≤ l → l < f 2 → 0 ≤ f (159 + 2 * l) ∧ f (159 + 2 * l) < f 0 ∧ 0 ≤ f (159 + 2 * l + 1) ∧ f (159 + 2 * l + 1) < f 0) ∧ (∀ s : Int, 0 ≤ s → s < f 0 → pp_tR (fun k => f (3 + k)) s) ∧ pp_FO (pp_Wr f) ∧ pp_RK (pp_Wr f) ∧ f 2 = pp_sm (fun s => mm_pc (mm_sup f s)) (f 0).toNat ∧ pp_CM (f 0) (f 2) (pp_Wr f)
theorem pp_RO_PR {f : Int → Int} (h : pp_RO f) : mm_PR f := ⟨h.2.2.1.1, by have := h.2.2.1.2; omega, fun k h1 h2 => by
  have g := h.2.2.2.1 k h1 h2
  have n := h.1
  omega⟩
theorem mm_supN_cg {f g : Int → Int} {s : Int} : ∀ (k : Nat), (∀ l : Int, 0 ≤ l → l < k → g (159 + 2 * l) = f (159 + 2 * l) ∧ g (159 + 2 * l + 1) = f (159 + 2 * l + 1)) → mm_supN g s k = mm_supN f s k
  | 0, _ => rfl
  | k + 1, h => by
    have q := h k (by omega) (by omega)
    rw [mm_supN, mm_supN, mm_supN_cg k (fun l h1 h2 => h l h1 (by omega)), q.1, q.2]
theorem mm_cusN_cg {f g : Int → Int} {s : Int} : ∀ (k : Nat), (∀ l : Int, 0 ≤ l → l < k → g (159 + 2 * l) = f (159 + 2 * l) ∧ g (159 + 2 * l + 1) = f (159 + 2 * l + 1)) → mm_cusN g s k = mm_cusN f s k
  | 0, _ => rfl
  | k + 1, h => by
    have q := h k (by omega) (by omega)
    rw [mm_cusN, mm_cusN, mm_cusN_cg k (fun l h1 h2 => h l h1 (by omega)), q.1, q.2]
theorem mm_sup_cg {f g : Int → Int} (h2 : g 2 = f 2) (h : ∀ l : Int, 0 ≤ l → l < f 2 → g (159 + 2 * l) = f (159 + 2 * l) ∧ g (159 + 2 * l + 1) = f (159 + 2 * l + 1)) : mm_sup g = mm_sup f := by
  funext s
  unfold mm_sup
  rw [h2]
  exact mm_supN_cg _ (fun l h1 h2 => h l h1 (by omega))
theorem mm_cus_cg {f g : Int → Int} (h2 : g 2 = f 2) (h : ∀ l : Int, 0 ≤ l → l < f 2 → g (159 + 2 * l) = f (159 + 2 * l) ∧ g (159 + 2 * l + 1) = f (159 + 2 * l + 1)) : mm_cus g = mm_cus f := by
  funext s
  unfold mm_cus
  rw [h2]
  exact mm_cusN_cg _ (fun l h1 h2 => h l h1 (by omega))
theorem pp_ior0 {x : Int} (h : 0 ≤ x) : mm_ior x 0 = x := by
  unfold mm_ior
  show ((x.toNat ||| 0 : Nat) : Int) = x
  rw [Nat.or_zero]
  omega
/-- a supply more -/
theorem mm_sup_add {f g : Int → Int} {i j : Int} (h0 : 0 ≤ f 2) (h2 : g 2 = f 2 + 1) (h : ∀ l : Int, 0 ≤ l → l < f 2 → g (159 + 2 * l) = f (159 + 2 * l) ∧ g (159 + 2 * l + 1) = f (159 + 2 * l + 1)) (hi : g (159 + 2 * f 2) = i) (hj : g (159 + 2 * f 2 + 1) = j) (s : Int) : mm_sup g s = if s = j then mm_ior (mm_sup f s) (mm_pw i) else mm_sup f s := by
  have e : mm_sup g s = mm_supN g s ((f 2).toNat + 1) := by
    unfold mm_sup
    rw [show (g 2).toNat = (f 2).toNat + 1 by omega]
  rw [e, mm_supN, mm_supN_cg _ (fun l h1 h2 => h l h1 (by omega)), show (((f 2).toNat : Nat) : Int) = f 2 by omega, hi, hj]
  show mm_ior (mm_sup f s) _ = _
  by_cases c : s = j
  · rw [if_pos c, if_pos c.symm]
  · rw [if_neg c, if_neg (fun z => c z.symm), pp_ior0 (x := mm_sup f s) (mm_supN_nn _ _ _)]
theorem mm_cus_add {f g : Int → Int} {i j : Int} (h0 : 0 ≤ f 2) (h2 : g 2 = f 2 + 1) (h : ∀ l : Int, 0 ≤ l → l < f 2 → g (159 + 2 * l) = f (159 + 2 * l) ∧ g (159 + 2 * l + 1) = f (159 + 2 * l + 1)) (hi : g (159 + 2 * f 2) = i) (hj : g (159 + 2 * f 2 + 1) = j) (s : Int) : mm_cus g s = if s = i then mm_ior (mm_cus f s) (mm_pw j) else mm_cus f s := by
  have e : mm_cus g s = mm_cusN g s ((f 2).toNat + 1) := by
    unfold mm_cus
    rw [show (g 2).toNat = (f 2).toNat + 1 by omega]
  rw [e, mm_cusN, mm_cusN_cg _ (fun l h1 h2 => h l h1 (by omega)), show (((f 2).toNat : Nat) : Int) = f 2 by omega, hi, hj]
  show mm_ior (mm_cus f s) _ = _
  by_cases c : s = i
  · rw [if_pos c, if_pos c.symm]
  · rw [if_neg c, if_neg (fun z => c z.symm), pp_ior0 (x := mm_cus f s) (mm_cusN_nn _ _ _)]
theorem pp_pc_add {x i : Int} (h1 : 0 ≤ i) (h2 : i < 12) (hx : mm_bt x i = false) : mm_pc (mm_ior x (mm_pw i)) = mm_pc x + 1 := by
  unfold mm_pc
  have e : mm_cnt (mm_bt (mm_ior x (mm_pw i))) 12 = mm_cnt (fun t => mm_bt x t || decide (t = i)) 12 := mm_cnt_congr _ (fun t t1 _ => by rw [mm_bt_or, mm_bt_pw h1 t1])
  rw [e, pp_cnt_add (p := mm_bt x) (s := i) hx (by simp) (fun t ht => by simp [ht]) h1, if_pos (by omega)]
theorem pp_sm_up {g h : Int → Int} {j d : Int} : ∀ (k : Nat), 0 ≤ j → j < k → (∀ i : Int, 0 ≤ i → i < k → i ≠ j → h i = g i) → h j = g j + d → pp_sm h k = pp_sm g k + d
  | 0, h1, h2, _, _ => by omega
  | k + 1, h1, h2, e, hj => by
    show pp_sm h k + h k = pp_sm g k + g k + d
    by_cases c : j = k
    · subst c
      rw [pp_sm_congr k (fun i h3 h4 => e i h3 (by omega) (by omega)), hj]; omega
    · rw [pp_sm_up k h1 (by omega) (fun i h3 h4 h5 => e i h3 (by omega) h5) hj, e k (by omega) (by omega) (by omega)]; omega
theorem pp_cn_in {n : Int} {W : pp_W} (hW : pp_IN n W) {x y : Int} (h : pp_cn W x y) : x = y ∨ (0 ≤ y ∧ y < n) :=
  h (fun y => x = y ∨ (0 ≤ y ∧ y < n)) (Or.inl rfl) (fun u v e _ => Or.inr (by
    rcases e with e | e
    · have := hW u v e; omega
    · have := hW v u e; omega))
/-- with an edge more -/
theorem pp_cn_aw2 {W : pp_W} {a b x y : Int} : pp_cn (pp_aw W a b) x y ↔ pp_cn W x y ∨ (pp_cn W x a ∧ pp_cn W b y) ∨ (pp_cn W x b ∧ pp_cn W a y) := by
  constructor
  · exact pp_cn_aw
  · have up : ∀ {x y}, pp_cn W x y → pp_cn (pp_aw W a b) x y := fun h => pp_cn_mo h (fun u v g => pp_aw_le g)
    have ab : pp_aw W a b a b = true := by unfold pp_aw; rw [decide_eq_true ⟨rfl, rfl⟩, Bool.or_true]
    rintro (h | ⟨h1, h2⟩ | ⟨h1, h2⟩)
    · exact up h
    · exact pp_cn_tr (pp_cn_st (up h1) (Or.inl ab)) (up h2)
    · exact pp_cn_tr (pp_cn_st (up h1) (Or.inr ab)) (up h2)
theorem pp_CM_aw {n m : Int} {W : pp_W} {a b : Int} (h : pp_CM n m W) (a1 : 0 ≤ a) (a2 : a < n) (b1 : 0 ≤ b) (b2 : b < n) (hn : ¬ pp_cn W a b) : pp_CM n (m + 1) (pp_aw W a b) := by
  obtain ⟨rep, h1, h2, h3⟩ := h
  have ne : rep a ≠ rep b := fun z => hn ((h2 a b a1 a2 b1 b2).mp z)
  have ra := h1 a a1 a2
  have rb := h1 b b1 b2
  refine ⟨fun v => if rep v = rep b then rep a else rep v, fun i i1 i2 => ?_, fun i j i1 i2 j1 j2 => ?_, ?_⟩
  · have ri := h1 i i1 i2
    show 0 ≤ (if rep i = rep b then rep a else rep i) ∧ (if rep i = rep b then rep a else rep i) < n ∧ (if rep (if rep i = rep b then rep a else rep i) = rep b then rep a else rep (if rep i = rep b then rep a else rep i)) = (if rep i = rep b then rep a else rep i)
    by_cases e : rep i = rep b
    · rw [if_pos e, ra.2.2, if_neg ne]
      exact ⟨ra.1, ra.2.1, rfl⟩
    · rw [if_neg e, ri.2.2, if_neg e]
      exact ⟨ri.1, ri.2.1, rfl⟩
  · show (if rep i = rep b then rep a else rep i) = (if rep j = rep b then rep a else rep j) ↔ _
    rw [pp_cn_aw2, ← h2 i j i1 i2 j1 j2, ← h2 i a i1 i2 a1 a2, ← h2 b j b1 b2 j1 j2, ← h2 i b i1 i2 b1 b2, ← h2 a j a1 a2 j1 j2]
    by_cases e : rep i = rep b
    · by_cases f : rep j = rep b
      · rw [if_pos e, if_pos f]
        exact ⟨fun _ => Or.inl (e.trans f.symm), fun _ => rfl⟩
      · rw [if_pos e, if_neg f]
        constructor
        · intro z; exact Or.inr (Or.inr ⟨e, z⟩)
        · rintro (z | ⟨z1, z2⟩ | ⟨z1, z2⟩)
          · exact absurd (z.symm.trans e) f
          · exact absurd z2.symm f
          · exact z2
    · by_cases f : rep j = rep b
      · rw [if_neg e, if_pos f]
        constructor
        · intro z; exact Or.inr (Or.inl ⟨z, f.symm⟩)
        · rintro (z | ⟨z1, z2⟩ | ⟨z1, z2⟩)
          · exact absurd (z.trans f) e
          · exact z1
          · exact absurd z1 e
      · rw [if_neg e, if_neg f]
        constructor
        · intro z; exact Or.inl z
        · rintro (z | ⟨z1, z2⟩ | ⟨z1, z2⟩)
          · exact z
          · exact absurd z2.symm f
          · exact absurd z1 e
  · have c := pp_cnt_add (p := fun v => decide ((if rep v = rep b then rep a else rep v) = v)) (q := fun v => decide (rep v = v) && decide (0 ≤ v ∧ v < n) || decide ((if rep v = rep b then rep a else rep v) = v)) (s := rep b) (by
      show decide ((if rep (rep b) = rep b then rep a else rep (rep b)) = rep b) = false
      rw [if_pos rb.2.2]
      exact decide_eq_false ne) (by
      show (decide (rep (rep b) = rep b) && decide (0 ≤ rep b ∧ rep b < n) || _) = true
      rw [decide_eq_true rb.2.2, decide_eq_true ⟨rb.1, rb.2.1⟩]; rfl) (fun i hi => by
      show (decide (rep i = i) && decide (0 ≤ i ∧ i < n) || decide ((if rep i = rep b then rep a else rep i) = i)) = decide ((if rep i = rep b then rep a else rep i) = i)
      by_cases e : rep i = i ∧ (0 ≤ i ∧ i < n)
      · have e2 : ¬ rep i = rep b := fun z => hi (e.1.symm.trans z)
        rw [if_neg e2, decide_eq_true e.1, decide_eq_true e.2]; rfl
      · by_cases e3 : rep i = i
        · rw [decide_eq_true e3, decide_eq_false (fun z => e ⟨e3, z⟩)]; rfl
        · rw [decide_eq_false e3]; rfl) rb.1 n.toNat
    rw [if_pos (by omega)] at c
    have c2 : mm_cnt (fun v => decide (rep v = v) && decide (0 ≤ v ∧ v < n) || decide ((if rep v = rep b then rep a else rep v) = v)) n.toNat = mm_cnt (fun v => decide (rep v = v)) n.toNat := mm_cnt_congr _ (fun i i1 i2 => by
      show (decide (rep i = i) && decide (0 ≤ i ∧ i < n) || decide ((if rep i = rep b then rep a else rep i) = i)) = decide (rep i = i)
      rw [decide_eq_true (show 0 ≤ i ∧ i < n by omega), Bool.and_true]
      by_cases e3 : rep i = i
      · rw [decide_eq_true e3]; rfl
      · rw [decide_eq_false e3, Bool.false_or]
        by_cases e : rep i = rep b
        · rw [if_pos e]
          refine decide_eq_false (fun z => ?_)
          have q := ra.2.2
          rw [z] at q
          exact e3 q
        · rw [if_neg e]
          exact decide_eq_false e3)
    rw [c2, h3] at c
    show mm_cnt (fun v => decide ((if rep v = rep b then rep a else rep v) = v)) n.toNat = n - (m + 1)
    omega
/-- a stage more, with nothing joined -/
theorem pp_CM_node {n m : Int} {W : pp_W} (hn : 0 ≤ n) (hW : pp_IN n W) (h : pp_CM n m W) : pp_CM (n + 1) m W := by
  obtain ⟨rep, h1, h2, h3⟩ := h
  refine ⟨fun v => if v = n then n else rep v, fun i i1 i2 => ?_, fun i j i1 i2 j1 j2 => ?_, ?_⟩
  · show 0 ≤ (if i = n then n else rep i) ∧ (if i = n then n else rep i) < n + 1 ∧ (if (if i = n then n else rep i) = n then n else rep (if i = n then n else rep i)) = (if i = n then n else rep i)
    by_cases e : i = n
    · rw [if_pos e, if_pos rfl]; omega
    · have r := h1 i i1 (by omega)
      rw [if_neg e, if_neg (by omega)]
      exact ⟨r.1, by omega, r.2.2⟩
  · show (if i = n then n else rep i) = (if j = n then n else rep j) ↔ _
    have alone : ∀ x : Int, x ≠ n → ¬ pp_cn W n x := fun x hx z => by
      have g := z (fun y => y = n) rfl (fun u v e hu => by
        subst hu
        rcases e with e | e
        · have := hW _ _ e; omega
        · have := hW _ _ e; omega)
      exact hx g
    by_cases e : i = n
    · by_cases f : j = n
      · rw [if_pos e, if_pos f, e, f]
        exact ⟨fun _ => pp_cn_rf W n, fun _ => rfl⟩
      · have r := h1 j j1 (by omega)
        rw [if_pos e, if_neg f, e]
        exact ⟨fun z => by omega, fun z => absurd z (alone j f)⟩
    · have r := h1 i i1 (by omega)
      by_cases f : j = n
      · rw [if_neg e, if_pos f, f]
        exact ⟨fun z => by omega, fun z => absurd (pp_cn_sy z) (alone i e)⟩
      · rw [if_neg e, if_neg f]
        exact h2 i j i1 (by omega) j1 (by omega)
  · rw [show (n + 1).toNat = n.toNat + 1 by omega]
    show mm_cnt (fun v => decide ((if v = n then n else rep v) = v)) n.toNat + mm_b1 (decide ((if ((n.toNat : Nat) : Int) = n then n else rep ((n.toNat : Nat) : Int)) = ((n.toNat : Nat) : Int))) = n + 1 - m
    rw [if_pos (by omega), decide_eq_true (show n = ((n.toNat : Nat) : Int) by omega), mm_cnt_congr (q := fun v => decide (rep v = v)) _ (fun i i1 i2 => by
      show decide ((if i = n then n else rep i) = i) = decide (rep i = i)
      rw [if_neg (by omega)]), h3]
    show n - m + 1 = n + 1 - m
    omega
/-- there is one part at least -/
theorem pp_CM_1 {n m : Int} {W : pp_W} (h : pp_CM n m W) (hn : 1 ≤ n) : m + 1 ≤ n := by
  obtain ⟨rep, h1, h2, h3⟩ := h
  have r := h1 0 (by omega) (by omega)
  have c := pp_cnt_lt (p := fun _ => false) (q := fun v => decide (rep v = v)) (s := rep 0) n.toNat (fun i _ _ z => by cases z) r.1 (by omega) rfl (decide_eq_true r.2.2)
  have z := (mm_cnt_nn (fun _ => false) n.toNat).1
  omega
