/-! FROM THE OUTSIDE INWARD -/
/-- the walk: who has been met, from whom -/
def bb_BI (n : Int) (W : pp_W) (at_ sz sn : Int) (wk iw : Int → Int) : Prop := (0 ≤ at_ ∧ at_ ≤ sz ∧ sz = mm_cnt (mm_bt sn) n.toNat) ∧ (0 ≤ sn ∧ sn < 4096 ∧ ∀ u : Int, 0 ≤ u → mm_bt sn u = true → u < n) ∧ (∀ i : Int, 0 ≤ i → i < sz → 0 ≤ wk i ∧ wk i < n) ∧ (∀ i j : Int, 0 ≤ i → i < j → j < sz → wk i ≠ wk j)
  ∧ (∀ u : Int, 0 ≤ u → u < n → (mm_bt sn u = true ↔ ∃ i : Int, 0 ≤ i ∧ i < sz ∧ wk i = u))
  ∧ (∀ i : Int, 0 ≤ i → i < sz → iw (wk i) = -1 ∨ ∃ j : Int, 0 ≤ j ∧ j < i ∧ j < at_ ∧ wk j = iw (wk i) ∧ pp_nb W (wk j) (wk i))
  ∧ (∀ i : Int, 0 ≤ i → i < at_ → ∀ k : Int, pp_nb W (wk i) k → k ≠ iw (wk i) → iw k = wk i ∧ ∃ j : Int, i < j ∧ j < sz ∧ wk j = k)
  ∧ (∀ i j : Int, 0 ≤ j → j < i → i < sz → iw (wk i) = -1 → ¬ pp_cn W (wk j) (wk i))
theorem bb_nb_r {n : Int} {W : pp_W} (hW : pp_IN n W) {u v : Int} (h : pp_nb W u v) : 0 ≤ u ∧ u < n ∧ 0 ≤ v ∧ v < n := by
  rcases h with h | h
  · have := hW _ _ h; omega
  · have := hW _ _ h; omega
/-- each leads to a root, by edges that are not {s, k} -/
theorem bb_up {n : Int} {W : pp_W} {at_ sz sn : Int} {wk iw : Int → Int} (h : bb_BI n W at_ sz sn wk iw) {s k : Int} (hs : iw s ≠ k) (hk : ∀ j : Int, 0 ≤ j → j < at_ → wk j ≠ s) : ∀ (m : Nat) (i : Int), i.toNat ≤ m → 0 ≤ i → i < sz → ∃ r : Int, 0 ≤ r ∧ r ≤ i ∧ iw (wk r) = -1 ∧ pp_cn (pp_ct W s k) (wk i) (wk r) := by
  obtain ⟨_, _, _, _, _, h5, _, _⟩ := h
  intro m
  induction m with
  | zero =>
    intro i hm i0 i1
    rcases h5 i i0 i1 with e | ⟨j, j0, j1, _⟩
    · exact ⟨i, i0, Int.le_refl i, e, pp_cn_rf _ _⟩
    · omega
  | succ m ih =>
    intro i hm i0 i1
    rcases h5 i i0 i1 with e | ⟨j, j0, j1, j2, j3, j4⟩
    · exact ⟨i, i0, Int.le_refl i, e, pp_cn_rf _ _⟩
    · obtain ⟨r, r0, r1, r2, r3⟩ := ih j (by omega) j0 (by omega)
      refine ⟨r, r0, by omega, r2, pp_cn_tr (pp_cn_st (pp_cn_rf _ (wk i)) (pp_ct_nb.mpr ⟨j4.symm, ?_⟩)) r3⟩
      rintro (⟨e1, e2⟩ | ⟨e1, e2⟩)
      · apply hs
        rw [← e1, ← j3, e2]
      · exact hk j j0 j2 e2
/-- whoever hangs on the one at hand, but the one inward, is not met yet -/
theorem bb_new {n : Int} {W : pp_W} (hW : pp_IN n W) (hF : pp_FO W) {at_ sz sn : Int} {wk iw : Int → Int} (h : bb_BI n W at_ sz sn wk iw) (ha : at_ < sz) {k : Int} (hk : pp_nb W (wk at_) k) (hi : k ≠ iw (wk at_)) : mm_bt sn k = false := by
  have rk := bb_nb_r hW hk
  obtain ⟨h1, h2, h3, h4, h5, h6, h7, h8⟩ := h
  cases c : mm_bt sn k with
  | false => rfl
  | true =>
    exfalso
    obtain ⟨i, i0, i1, i2⟩ := (h5 k rk.2.2.1 rk.2.2.2).mp c
    have hk2 : ∀ j : Int, 0 ≤ j → j < at_ → wk j ≠ wk at_ := fun j j0 j1 => h4 j at_ j0 j1 ha
    obtain ⟨r, r0, r1, r2, r3⟩ := bb_up (s := wk at_) (k := k) ⟨h1, h2, h3, h4, h5, h6, h7, h8⟩ (fun z => hi z.symm) hk2 at_.toNat at_ (Nat.le_refl _) h1.1 ha
    obtain ⟨q, q0, q1, q2, q3⟩ := bb_up (s := wk at_) (k := k) ⟨h1, h2, h3, h4, h5, h6, h7, h8⟩ (fun z => hi z.symm) hk2 i.toNat i (Nat.le_refl _) i0 i1
    have up : ∀ {x y}, pp_cn (pp_ct W (wk at_) k) x y → pp_cn W x y := fun g => pp_cn_mo g (fun u v e => (pp_ct_t.mp e).1)
    rw [i2] at q3
    have cn : pp_cn W (wk r) (wk q) := pp_cn_tr (pp_cn_sy (up r3)) (pp_cn_tr (pp_cn_st (pp_cn_rf W _) hk) (up q3))
    have e : r = q := by
      by_cases e1 : r < q
      · exact absurd cn (h8 q r r0 e1 (by omega) q2)
      · by_cases e2 : q < r
        · exact absurd (pp_cn_sy cn) (h8 r q q0 e2 (by omega) r2)
        · omega
    rw [← e] at q3
    exact pp_sd_no hF hk (pp_cn_tr r3 (pp_cn_sy q3))
/-- all met ones are gone through: what hangs on them is met -/
theorem bb_closed {n : Int} {W : pp_W} (hW : pp_IN n W) {sz sn : Int} {wk iw : Int → Int} (h : bb_BI n W sz sz sn wk iw) {u v : Int} (hu : mm_bt sn u = true) (e : pp_nb W u v) : mm_bt sn v = true := by
  have r := bb_nb_r hW e
  obtain ⟨h1, h2, h3, h4, h5, h6, h7, h8⟩ := h
  obtain ⟨i, i0, i1, i2⟩ := (h5 u r.1 r.2.1).mp hu
  apply (h5 v r.2.2.1 r.2.2.2).mpr
  by_cases c : v = iw (wk i)
  · rcases h6 i i0 i1 with z | ⟨j, j0, j1, j2, j3, _⟩
    · omega
    · exact ⟨j, j0, by omega, by rw [j3, c]⟩
  · obtain ⟨_, j, j1, j2, j3⟩ := h7 i i0 i1 v (by rw [i2]; exact e) c
    exact ⟨j, by omega, j2, j3⟩
theorem bb_BI_root {n : Int} {W : pp_W} (hn : n ≤ 12) (hW : pp_IN n W) {sz sn f : Int} {wk iw : Int → Int} (h : bb_BI n W sz sz sn wk iw) (f0 : 0 ≤ f) (f1 : f < n) (hf : mm_bt sn f = false) : bb_BI n W sz (sz + 1) (mm_ior sn (mm_pw f)) (mm_u wk sz f) (mm_u iw f (-1)) := by
  have cl := fun u v hu e => bb_closed (u := u) (v := v) hW h hu e
  obtain ⟨h1, h2, h3, h4, h5, h6, h7, h8⟩ := h
  have bt : ∀ u : Int, 0 ≤ u → mm_bt (mm_ior sn (mm_pw f)) u = (mm_bt sn u || decide (u = f)) := fun u u0 => by rw [mm_bt_or, mm_bt_pw f0 u0]
  have wo : ∀ i : Int, i < sz → mm_u wk sz f i = wk i := fun i hi => mm_u_ne (by omega)
  have nf : ∀ i : Int, 0 ≤ i → i < sz → wk i ≠ f := fun i i0 i1 z => by
    rw [(h5 f f0 f1).mpr ⟨i, i0, i1, z⟩] at hf
    cases hf
  have io : ∀ i : Int, 0 ≤ i → i < sz → mm_u iw f (-1) (wk i) = iw (wk i) := fun i i0 i1 => mm_u_ne (nf i i0 i1)
  refine ⟨⟨h1.1, by omega, ?_⟩, ⟨mm_ior_nn _ _, mm_ior_lt h2.2.1 (mm_pw_lt (by omega)), ?_⟩, ?_, ?_, ?_, ?_, ?_, ?_⟩
  · rw [mm_cnt_congr (q := fun u => mm_bt sn u || decide (u = f)) _ (fun i i0 _ => bt i i0), pp_cnt_add (p := mm_bt sn) (s := f) hf (by rw [decide_eq_true rfl, Bool.or_true]) (fun i hi => by rw [decide_eq_false hi, Bool.or_false]) f0, if_pos (by omega), ← h1.2.2]
  · intro u u0 hu
    rw [bt u u0] at hu
    rcases Bool.or_eq_true_iff.mp hu with e | e
    · exact h2.2.2 u u0 e
    · have := of_decide_eq_true e; omega
  · intro i i0 i1
    by_cases e : i = sz
    · rw [e, mm_u_eq]; exact ⟨f0, f1⟩
    · rw [wo i (by omega)]; exact h3 i i0 (by omega)
  · intro i j i0 ij j1
    by_cases e : j = sz
    · rw [e, mm_u_eq, wo i (by omega)]; exact nf i i0 (by omega)
    · rw [wo i (by omega), wo j (by omega)]; exact h4 i j i0 ij (by omega)
  · intro u u0 u1
    rw [bt u u0, Bool.or_eq_true_iff, h5 u u0 u1, decide_eq_true_iff]
    constructor
    · rintro (⟨i, i0, i1, i2⟩ | e)
      · exact ⟨i, i0, by omega, by rw [wo i i1]; exact i2⟩
      · exact ⟨sz, by omega, by omega, by rw [mm_u_eq]; exact e.symm⟩
    · rintro ⟨i, i0, i1, i2⟩
      by_cases e : i = sz
      · rw [e, mm_u_eq] at i2; exact Or.inr i2.symm
      · rw [wo i (by omega)] at i2; exact Or.inl ⟨i, i0, by omega, i2⟩
  · intro i i0 i1
    by_cases e : i = sz
    · left; rw [e, mm_u_eq, mm_u_eq]
    · rw [wo i (by omega), io i i0 (by omega)]
      rcases h6 i i0 (by omega) with z | ⟨j, j0, j1, j2, j3, j4⟩
      · exact Or.inl z
      · exact Or.inr ⟨j, j0, j1, j2, by rw [wo j (by omega)]; exact j3, by rw [wo j (by omega)]; exact j4⟩
  · intro i i0 i1 k hk hki
    rw [wo i i1] at hk hki ⊢
    rw [io i i0 i1] at hki
    obtain ⟨z, j, j1, j2, j3⟩ := h7 i i0 i1 k hk hki
    have kf : k ≠ f := fun q => nf j (by omega) j2 (j3.trans q)
    exact ⟨by rw [mm_u_ne kf]; exact z, j, j1, by omega, by rw [wo j j2]; exact j3⟩
  · intro i j j0 ji i1 hi
    by_cases e : i = sz
    · rw [e, mm_u_eq, wo j (by omega)]
      intro cn
      have g := cn (fun v => mm_bt sn v = true ∧ 0 ≤ v) ⟨(h5 (wk j) (h3 j j0 (by omega)).1 (h3 j j0 (by omega)).2).mpr ⟨j, j0, by omega, rfl⟩, (h3 j j0 (by omega)).1⟩ (fun u v e g => ⟨cl u v g.1 e, (bb_nb_r hW e).2.2.1⟩)
      rw [hf] at g
      cases g.1
    · rw [wo i (by omega), wo j (by omega)]
      rw [wo i (by omega), io i (by omega) (by omega)] at hi
      exact h8 i j j0 ji (by omega) hi
/-- those met from s, up to x -/
def bb_IN (n : Int) (sz sn fd s x sz' : Int) (wk iw wk' iw' : Int → Int) : Prop := (sz ≤ sz' ∧ sz' = mm_cnt (fun u => mm_bt sn u || (mm_bt fd u && decide (u < x))) n.toNat) ∧ (∀ i : Int, i < sz → wk' i = wk i) ∧ (∀ i : Int, sz ≤ i → i < sz' → 0 ≤ wk' i ∧ wk' i < x ∧ mm_bt fd (wk' i) = true) ∧ (∀ i j : Int, sz ≤ i → i < j → j < sz' → wk' i ≠ wk' j) ∧ (∀ u : Int, 0 ≤ u → u < x → mm_bt fd u = true → ∃ i : Int, sz ≤ i ∧ i < sz' ∧ wk' i = u) ∧ (∀ u : Int, iw' u = if 0 ≤ u ∧ u < x ∧ mm_bt fd u = true then s else iw u)
theorem bb_IN_no {n sz sn fd s x sz' : Int} {wk iw wk' iw' : Int → Int} (h : bb_IN n sz sn fd s x sz' wk iw wk' iw') (hx : mm_bt fd x = false) : bb_IN n sz sn fd s (x + 1) sz' wk iw wk' iw' := by
  obtain ⟨h1, h2, h3, h4, h5, h6⟩ := h
  refine ⟨⟨h1.1, ?_⟩, h2, fun i i0 i1 => ?_, h4, fun u u0 u1 hu => ?_, fun u => ?_⟩
  · rw [h1.2]
    apply mm_cnt_congr
    intro i i0 _
    show (mm_bt sn i || (mm_bt fd i && decide (i < x))) = (mm_bt sn i || (mm_bt fd i && decide (i < x + 1)))
    by_cases e : i = x
    · rw [e, hx]; rfl
    · rw [show decide (i < x) = decide (i < x + 1) from decide_eq_decide.mpr (by omega)]
  · have := h3 i i0 i1; exact ⟨this.1, by omega, this.2.2⟩
  · by_cases e : u = x
    · rw [e, hx] at hu; cases hu
    · exact h5 u u0 (by omega) hu
  · rw [h6 u]
    by_cases e : 0 ≤ u ∧ u < x ∧ mm_bt fd u = true
    · rw [if_pos e, if_pos ⟨e.1, by omega, e.2.2⟩]
    · rw [if_neg e, if_neg (fun z => e ⟨z.1, by
        by_cases q : u = x
        · rw [q, hx] at z; cases z.2.2
        · omega, z.2.2⟩)]
theorem bb_IN_yes {n sz sn fd s x sz' : Int} {wk iw wk' iw' : Int → Int} (h : bb_IN n sz sn fd s x sz' wk iw wk' iw') (x0 : 0 ≤ x) (x1 : x < n) (hx : mm_bt fd x = true) (hs : mm_bt sn x = false) : sz' < n ∧ bb_IN n sz sn fd s (x + 1) (sz' + 1) wk iw (mm_u wk' sz' x) (mm_u iw' x s) := by
  obtain ⟨h1, h2, h3, h4, h5, h6⟩ := h
  have ec : mm_cnt (fun u => mm_bt sn u || (mm_bt fd u && decide (u < x + 1))) n.toNat = sz' + 1 := by
    rw [mm_cnt_congr (q := fun u => (mm_bt sn u || (mm_bt fd u && decide (u < x))) || decide (u = x)) _ (fun i i0 _ => ?_), pp_cnt_add (p := fun u => mm_bt sn u || (mm_bt fd u && decide (u < x))) (s := x) ?_ (by show (_ || decide (x = x)) = true; rw [decide_eq_true rfl, Bool.or_true]) (fun i hi => by show (_ || decide (i = x)) = _; rw [decide_eq_false hi, Bool.or_false]) x0, if_pos (by omega), ← h1.2]
    · show (mm_bt sn x || (mm_bt fd x && decide (x < x))) = false
      rw [hs, decide_eq_false (by omega), Bool.and_false]; rfl
    · show (mm_bt sn i || (mm_bt fd i && decide (i < x + 1))) = ((mm_bt sn i || (mm_bt fd i && decide (i < x))) || decide (i = x))
      by_cases e : i = x
      · rw [e, hx, decide_eq_true (show x < x + 1 by omega), decide_eq_true (show x = x from rfl), Bool.or_true]
        show (_ || true) = true
        rw [Bool.or_true]
      · rw [decide_eq_false e, Bool.or_false, show decide (i < x) = decide (i < x + 1) from decide_eq_decide.mpr (by omega)]
  have lt : sz' < n := by
    have := (mm_cnt_nn (fun u => mm_bt sn u || (mm_bt fd u && decide (u < x + 1))) n.toNat).2
    omega
  refine ⟨lt, ⟨by omega, ec.symm⟩, fun i hi => ?_, fun i i0 i1 => ?_, fun i j i0 ij j1 => ?_, fun u u0 u1 hu => ?_, fun u => ?_⟩
  · rw [mm_u_ne (by omega)]; exact h2 i hi
  · by_cases e : i = sz'
    · rw [e, mm_u_eq]; exact ⟨x0, by omega, hx⟩
    · rw [mm_u_ne e]
      have := h3 i i0 (by omega)
      exact ⟨this.1, by omega, this.2.2⟩
  · by_cases e : j = sz'
    · rw [e, mm_u_eq, mm_u_ne (by omega)]
      have := h3 i i0 (by omega)
      omega
    · rw [mm_u_ne e, mm_u_ne (by omega)]; exact h4 i j i0 ij (by omega)
  · by_cases e : u = x
    · exact ⟨sz', h1.1, by omega, by rw [mm_u_eq]; exact e.symm⟩
    · obtain ⟨i, i0, i1, i2⟩ := h5 u u0 (by omega) hu
      exact ⟨i, i0, by omega, by rw [mm_u_ne (by omega)]; exact i2⟩
  · by_cases e : u = x
    · rw [e, mm_u_eq, if_pos ⟨x0, by omega, hx⟩]
    · rw [mm_u_ne e, h6 u]
      by_cases q : 0 ≤ u ∧ u < x ∧ mm_bt fd u = true
      · rw [if_pos q, if_pos ⟨q.1, by omega, q.2.2⟩]
      · rw [if_neg q, if_neg (fun z => q ⟨z.1, by omega, z.2.2⟩)]
theorem bb_IN_end {n : Int} {W : pp_W} (hn : n ≤ 12) (hW : pp_IN n W) (hF : pp_FO W) {at_ sz sn fd sz' : Int} {wk iw wk' iw' : Int → Int} (hb : bb_BI n W at_ sz sn wk iw) (ha : at_ < sz) (f0 : 0 ≤ fd) (f1 : fd < 4096) (hfd : ∀ u : Int, 0 ≤ u → (mm_bt fd u = true ↔ pp_nb W (wk at_) u ∧ mm_bt sn u = false)) (h : bb_IN n sz sn fd (wk at_) n sz' wk iw wk' iw') : bb_BI n W (at_ + 1) sz' (mm_ior sn fd) wk' iw' := by
  have nw := fun k hk hi => bb_new (k := k) hW hF hb ha hk hi
  obtain ⟨b1, b2, b3, b4, b5, b6, b7, b8⟩ := hb
  obtain ⟨h1, h2, h3, h4, h5, h6⟩ := h
  have bt : ∀ u : Int, mm_bt (mm_ior sn fd) u = (mm_bt sn u || mm_bt fd u) := fun u => mm_bt_or
  have fn : ∀ u : Int, 0 ≤ u → mm_bt fd u = true → u < n := fun u u0 hu => (bb_nb_r hW ((hfd u u0).mp hu).1).2.2.2
  have sf : ∀ i : Int, 0 ≤ i → i < sz → mm_bt fd (wk i) = false := fun i i0 i1 => by
    have r := b3 i i0 i1
    cases c : mm_bt fd (wk i) with
    | false => rfl
    | true =>
      have z := ((hfd (wk i) r.1).mp c).2
      rw [(b5 (wk i) r.1 r.2).mpr ⟨i, i0, i1, rfl⟩] at z
      cases z
  have io : ∀ i : Int, 0 ≤ i → i < sz → iw' (wk i) = iw (wk i) := fun i i0 i1 => by
    rw [h6, if_neg (fun z => by rw [sf i i0 i1] at z; cases z.2.2)]
  have s0 := b3 at_ b1.1 ha
  refine ⟨⟨by omega, by omega, ?_⟩, ⟨mm_ior_nn _ _, mm_ior_lt b2.2.1 f1, ?_⟩, ?_, ?_, ?_, ?_, ?_, ?_⟩
  · rw [h1.2]
    apply mm_cnt_congr
    intro i i0 i1
    show (mm_bt sn i || (mm_bt fd i && decide (i < n))) = _
    rw [bt, decide_eq_true (by omega), Bool.and_true]
  · intro u u0 hu
    rw [bt] at hu
    rcases Bool.or_eq_true_iff.mp hu with e | e
    · exact b2.2.2 u u0 e
    · exact fn u u0 e
  · intro i i0 i1
    by_cases e : i < sz
    · rw [h2 i e]; exact b3 i i0 e
    · have := h3 i (by omega) i1; exact ⟨this.1, this.2.1⟩
  · intro i j i0 ij j1
    by_cases e : j < sz
    · rw [h2 i (by omega), h2 j e]; exact b4 i j i0 ij e
    · by_cases e2 : i < sz
      · rw [h2 i e2]
        intro z
        have q := (h3 j (by omega) j1).2.2
        rw [← z, sf i i0 e2] at q
        cases q
      · exact h4 i j (by omega) ij j1
  · intro u u0 u1
    rw [bt, Bool.or_eq_true_iff, b5 u u0 u1]
    constructor
    · rintro (⟨i, i0, i1, i2⟩ | e)
      · exact ⟨i, i0, by omega, by rw [h2 i i1]; exact i2⟩
      · obtain ⟨i, i0, i1, i2⟩ := h5 u u0 u1 e
        exact ⟨i, by omega, i1, i2⟩
    · rintro ⟨i, i0, i1, i2⟩
      by_cases e : i < sz
      · exact Or.inl ⟨i, i0, e, by rw [← h2 i e]; exact i2⟩
      · exact Or.inr (by rw [← i2]; exact (h3 i (by omega) i1).2.2)
  · intro i i0 i1
    by_cases e : i < sz
    · rw [h2 i e, io i i0 e]
      rcases b6 i i0 e with z | ⟨j, j0, j1, j2, j3, j4⟩
      · exact Or.inl z
      · exact Or.inr ⟨j, j0, j1, by omega, by rw [h2 j (by omega)]; exact j3, by rw [h2 j (by omega)]; exact j4⟩
    · have r := h3 i (by omega) i1
      right
      refine ⟨at_, b1.1, by omega, by omega, ?_, ?_⟩
      · rw [h2 at_ ha, h6, if_pos r]
      · rw [h2 at_ ha]; exact ((hfd _ r.1).mp r.2.2).1
  · intro i i0 i1 k hk hki
    by_cases e : i < at_
    · rw [h2 i (by omega)] at hk hki ⊢
      rw [io i i0 (by omega)] at hki
      obtain ⟨z, j, j1, j2, j3⟩ := b7 i i0 e k hk hki
      exact ⟨by rw [← j3, io j (by omega) j2, j3]; exact z, j, j1, by omega, by rw [h2 j j2]; exact j3⟩
    · have ei : i = at_ := by omega
      rw [ei, h2 at_ ha] at hk hki ⊢
      rw [io at_ b1.1 ha] at hki
      have z := nw k hk hki
      have rk := bb_nb_r hW hk
      have hf := (hfd k rk.2.2.1).mpr ⟨hk, z⟩
      obtain ⟨j, j0, j1, j2⟩ := h5 k rk.2.2.1 rk.2.2.2 hf
      exact ⟨by rw [h6, if_pos ⟨rk.2.2.1, rk.2.2.2, hf⟩], j, by omega, j1, j2⟩
  · intro i j j0 ji i1 hi
    by_cases e : i < sz
    · rw [h2 i e, h2 j (by omega)]
      rw [h2 i e, io i (by omega) e] at hi
      exact b8 i j j0 ji e hi
    · have r := h3 i (by omega) i1
      rw [h6, if_pos r] at hi
      omega
section
variable {E : mm_E} {d B : Nat} {S : mm_S} {c : mm_N} {a : Nat}
theorem l_firstNotIn {x : Int} (hd : 1 ≤ d) (x0 : 0 ≤ x) : ∀ (j n : Nat) (f : Int), 0 ≤ f → f + j = 11 → j < n → (∀ i : Int, 0 ≤ i → i < f → mm_bt x i = true) → ∃ g : Int, (0 ≤ g ∧ g ≤ 11) ∧ (∀ i : Int, 0 ≤ i → i < g → mm_bt x i = true) ∧ (g = 11 ∨ mm_bt x g = false) ∧ mm_r9_2 E (mm_ev E d) n (mm_i x) (mm_i f) (mm_hp B S c) = mm_oI g (mm_hp B S c) := by
  intro j
  induction j with
  | zero =>
    intro n f f0 fj hn hf
    obtain ⟨n, rfl⟩ : ∃ m, n = m + 1 := ⟨n - 1, by omega⟩
    refine ⟨f, by omega, hf, Or.inl (by omega), ?_⟩
    rw [mm_e9_2, mm_br_le (by omega) (by omega) (by omega) (by omega), if_pos (by omega)]
  | succ j ih =>
    intro n f f0 fj hn hf
    obtain ⟨n, rfl⟩ : ∃ m, n = m + 1 := ⟨n - 1, by omega⟩
    rw [mm_e9_2, mm_br_le (by omega) (by omega) (by omega) (by omega), if_neg (by omega), c_has hd x0 f0 (by omega), mm_cI_ok, mm_br_b1]
    by_cases q : mm_bt x f = true
    · obtain ⟨g, g1, g2, g3, g4⟩ := ih n (f + 1) (by omega) (by omega) (by omega) (fun i i0 i1 => by
        by_cases e : i = f
        · rw [e]; exact q
        · exact hf i i0 (by omega))
      exact ⟨g, g1, g2, g3, by rw [if_pos q, mm_i_add]; exact g4⟩
    · exact ⟨f, by omega, hf, Or.inr (Bool.eq_false_iff.mpr q), by rw [if_neg q]⟩
theorem c_firstNotIn {x n : Int} (hd : 2 ≤ d) (x0 : 0 ≤ x) (hn : n ≤ 12) (hx : mm_cnt (mm_bt x) n.toNat < n) : ∃ g : Int, (0 ≤ g ∧ g < n) ∧ mm_bt x g = false ∧ mm_ev E d 9 [.int (mm_i x)] (mm_hp B S c) = mm_oI g (mm_hp B S c) := by
  obtain ⟨e, rfl⟩ : ∃ k, d = k + 1 := ⟨d - 1, by omega⟩
  obtain ⟨F, hF, h⟩ := mm_w9 E e B S c (mm_i x)
  obtain ⟨g, g1, g2, g3, g4⟩ := l_firstNotIn (E := E) (d := e) (B := B) (S := S) (c := c) (x := x) (by omega) x0 11 (F + 99) 0 (by omega) (by omega) (by omega) (fun i i0 i1 => by omega)
  have ex : ∃ u : Int, 0 ≤ u ∧ u < n ∧ mm_bt x u = false := by
    by_cases z : ∃ u : Int, 0 ≤ u ∧ u < n ∧ mm_bt x u = false
    · exact z
    · exfalso
      have all : ∀ u : Int, 0 ≤ u → u < n → mm_bt x u = true := fun u u0 u1 => by
        cases q : mm_bt x u with
        | true => rfl
        | false => exact absurd ⟨u, u0, u1, q⟩ z
      have one : ∀ k : Nat, (k : Int) ≤ n → mm_cnt (mm_bt x) k = k := by
        intro k
        induction k with
        | zero => intro _; rfl
        | succ k ih =>
          intro hk
          show mm_cnt (mm_bt x) k + mm_b1 (mm_bt x k) = _
          rw [ih (by omega), all k (by omega) (by omega)]
          show (k : Int) + 1 = _
          omega
      have := one n.toNat
      have := (mm_cnt_nn (mm_bt x) n.toNat).1
      omega
  obtain ⟨u, u0, u1, u2⟩ := ex
  have gu : g ≤ u := by
    by_cases z : u < g
    · rw [g2 u u0 z] at u2; cases u2
    · omega
  refine ⟨g, ⟨g1.1, by omega⟩, ?_, by rw [h, mm_e9_0]; exact g4⟩
  rcases g3 with g3 | g3
  · rw [show g = u by omega]; exact u2
  · exact g3
theorem l_walkIn {at_ sz sn fd s : Int} {wk iw : Int → Int} {x4 : Int32} (hd : 1 ≤ d) (ha : a = 3 ∨ a = 14 ∨ a = 25) (hn : 0 ≤ S.I a 10 ∧ S.I a 10 ≤ 12) (f0 : 0 ≤ fd) (z0 : 0 ≤ sz) (hdj : ∀ u : Int, 0 ≤ u → mm_bt fd u = true → mm_bt sn u = false) (hx4 : x4 = mm_i at_) : ∀ (j n : Nat) (x sz' : Int) (wk' iw' : Int → Int), 0 ≤ x → x + j = S.I a 10 → j < n → bb_IN (S.I a 10) sz sn fd s x sz' wk iw wk' iw' →
    ∃ (m : Nat) (sz'' : Int) (wk'' iw'' : Int → Int) (o5 o6 o7 : Option Value), n ≤ m + j + 1 ∧ bb_IN (S.I a 10) sz sn fd s (S.I a 10) sz'' wk iw wk'' iw'' ∧ mm_r8_94 E (mm_ev E d) n (mm_ad B 40) (mm_ad B a) (mm_i sn) (mm_i sz') x4 (mm_i s) (mm_i fd) (mm_i x) (mm_hp B ((S.sA 55 wk').sA 56 iw') c) = mm_r8_7 E (mm_ev E d) m (mm_ad B 40) (mm_ad B a) (mm_i sn ||| mm_i fd) (mm_i sz'') (mm_i (at_ + 1)) o5 o6 o7 (mm_hp B ((S.sA 55 wk'').sA 56 iw'') c) := by
  intro j
  induction j with
  | zero =>
    intro n x sz' wk' iw' x0 xj hj h
    obtain ⟨n, rfl⟩ : ∃ m, n = m + 1 := ⟨n - 1, by omega⟩
    refine ⟨n, sz', wk', iw', some (.int (mm_i s)), some (.int (mm_i fd)), some (.int (mm_i x)), by omega, by rw [show x = S.I a 10 by omega] at h; exact h, ?_⟩
    rw [mm_e8_94]
    simp (disch := omega) only [mm_ptN, mm_gs, mm_br_le]
    rw [if_pos (by omega), hx4, mm_i_add]
  | succ j ih =>
    intro n x sz' wk' iw' x0 xj hj h
    obtain ⟨n, rfl⟩ : ∃ m, n = m + 1 := ⟨n - 1, by omega⟩
    have sz0 := h.1.1
    have sz1 := h.1.2
    have sz2 := mm_cnt_nn (fun u => mm_bt sn u || (mm_bt fd u && decide (u < x))) (S.I a 10).toNat
    by_cases q : mm_bt fd x = true
    · obtain ⟨lt, h'⟩ := bb_IN_yes h x0 (by omega) q (hdj x x0 q)
      obtain ⟨m, sz'', wk'', iw'', o5, o6, o7, r1, r2, r3⟩ := ih n (x + 1) (sz' + 1) _ _ (by omega) (by omega) (by omega) h'
      refine ⟨m, sz'', wk'', iw'', o5, o6, o7, by omega, r2, ?_⟩
      rw [← r3, mm_e8_94]
      simp (disch := omega) only [mm_ptN, mm_gs, mm_br_le]
      rw [if_neg (by omega), if_neg (by omega), c_has hd f0 x0 (by omega), mm_cI_ok, mm_br_b1, if_pos q]
      simp (disch := omega) only [mm_ptB, mm_gs, mm_gA_ne, pp_cm, mm_hm]
    · have h' := bb_IN_no h (Bool.eq_false_iff.mpr q)
      obtain ⟨m, sz'', wk'', iw'', o5, o6, o7, r1, r2, r3⟩ := ih n (x + 1) sz' _ _ (by omega) (by omega) (by omega) h'
      refine ⟨m, sz'', wk'', iw'', o5, o6, o7, by omega, r2, ?_⟩
      rw [← r3, mm_e8_94]
      simp (disch := omega) only [mm_ptN, mm_gs, mm_br_le]
      rw [if_neg (by omega)]
      by_cases w : 12 ≤ sz'
      · rw [if_pos w, mm_i_add]
      · rw [if_neg w, c_has hd f0 x0 (by omega), mm_cI_ok, mm_br_b1, if_neg q, mm_i_add]
theorem l_walk (hd : 2 ≤ d) (ha : a = 3 ∨ a = 14 ∨ a = 25) (hN : pp_NK S a) (hG : pp_GK S a) : ∀ (j n : Nat) (at_ sz sn : Int) (wk iw : Int → Int) (o5 o6 o7 : Option Value), at_ + j = S.I a 10 → 40 * (j + 1) ≤ n → bb_BI (S.I a 10) (pp_Wf (S.I a 10) (S.A (a + 3))) at_ sz sn wk iw →
    ∃ (sn' : Int) (wk' iw' : Int → Int), bb_BI (S.I a 10) (pp_Wf (S.I a 10) (S.A (a + 3))) (S.I a 10) (S.I a 10) sn' wk' iw' ∧ mm_r8_7 E (mm_ev E d) n (mm_ad B 40) (mm_ad B a) (mm_i sn) (mm_i sz) (mm_i at_) o5 o6 o7 (mm_hp B ((S.sA 55 wk).sA 56 iw) c) = mm_oV (mm_hp B ((S.sA 55 wk').sA 56 iw') c) := by
  have hn := hN.1
  have cn := fun p => mm_cnt_nn p (S.I a 10).toNat
  intro j
  induction j with
  | zero =>
    intro n at_ sz sn wk iw o5 o6 o7 hj hn' h
    obtain ⟨n, rfl⟩ : ∃ m, n = m + 1 := ⟨n - 1, by omega⟩
    have := (cn (mm_bt sn)).2
    have h1 := h.1
    refine ⟨sn, wk, iw, ?_, ?_⟩
    · rw [show at_ = S.I a 10 by omega, show sz = S.I a 10 by omega] at h
      exact h
    · rw [mm_e8_7]
      simp (disch := omega) only [mm_ptN, mm_gs, mm_br_le]
      rw [if_pos (by omega)]
  | succ j ih =>
    intro n at_ sz sn wk iw o5 o6 o7 hj hn' h
    obtain ⟨n, rfl⟩ : ∃ m, n = m + 40 := ⟨n - 40, by omega⟩
    have h1 := h.1
    have h2 := h.2.1
    -- the one at hand is met
    have hand : ∃ (m : Nat) (sz1 sn1 : Int) (wk1 iw1 : Int → Int), n + 36 ≤ m ∧ at_ < sz1 ∧ bb_BI (S.I a 10) (pp_Wf (S.I a 10) (S.A (a + 3))) at_ sz1 sn1 wk1 iw1 ∧ mm_r8_7 E (mm_ev E d) (n + 40) (mm_ad B 40) (mm_ad B a) (mm_i sn) (mm_i sz) (mm_i at_) o5 o6 o7 (mm_hp B ((S.sA 55 wk).sA 56 iw) c) = mm_r8_70 E (mm_ev E d) m (mm_ad B 40) (mm_ad B a) (mm_i sn1) (mm_i sz1) (mm_i at_) (mm_i (wk1 at_)) o6 o7 (mm_hp B ((S.sA 55 wk1).sA 56 iw1) c) := by
      by_cases q : at_ = sz
      · obtain ⟨f, f1, f2, f3⟩ := c_firstNotIn (E := E) (d := d) (B := B) (S := ((S.sA 55 wk).sA 56 iw)) (c := c) (x := sn) (n := S.I a 10) hd h2.1 hn.2 (by omega)
        rw [← q] at h
        have h' := bb_BI_root hn.2 (pp_Wf_in _ _) h f1.1 f1.2 f2
        refine ⟨n + 37, at_ + 1, mm_ior sn (mm_pw f), mm_u wk at_ f, mm_u iw f (-1), by omega, by omega, h', ?_⟩
        rw [mm_e8_7]
        simp (disch := omega) only [mm_ptN, mm_gs, mm_br_le]
        rw [if_neg (by omega), mm_br_eq (by omega) (by omega) (by omega) (by omega), if_pos q]
        simp (disch := omega) only [mm_ptB]
        rw [f3, mm_cI_ok]
        simp (disch := omega) only [mm_ptB, mm_gs, mm_gA_ne, pp_cm]
        rw [mm_e8_33]
        simp (disch := omega) only [mm_ptB, mm_gs, mm_gA_ne, pp_cm, mm_u_eq]
        rw [mm_e8_46]
        simp (disch := omega) only [mm_ptB, mm_gs, mm_gA_ne, pp_cm, mm_u_eq]
        rw [mm_i_shl f1.1 (by omega), mm_i_or h2.1 (mm_pw_nn f), mm_i_add, q]
      · have r := h.2.2.1 at_ h1.1 (by omega)
        refine ⟨n + 39, sz, sn, wk, iw, by omega, by omega, h, ?_⟩
        have := (cn (mm_bt sn)).2
        rw [mm_e8_7]
        simp (disch := omega) only [mm_ptN, mm_gs, mm_br_le]
        rw [if_neg (by omega), mm_br_eq (by omega) (by omega) (by omega) (by omega), if_neg q]
        simp (disch := omega) only [mm_ptB, mm_gs, mm_gA_ne]
    obtain ⟨m, sz1, sn1, wk1, iw1, m1, lt, hB, e1⟩ := hand
    obtain ⟨m, rfl⟩ : ∃ q, m = q + 1 := ⟨m - 1, by omega⟩
    have b1 := hB.1
    have b2 := hB.2.1
    have r := hB.2.2.1 at_ b1.1 lt
    have rs := hN.2.2.1 (wk1 at_) r.1 (by omega)
    have rc := hN.2.2.2.1 (wk1 at_) r.1 (by omega)
    have szn := (cn (mm_bt sn1)).2
    have fd0 := mm_idf_nn (mm_ior (S.A (a + 3) (wk1 at_)) (S.A (a + 4) (wk1 at_))) sn1
    have fd1 := mm_idf_lt (x := mm_ior (S.A (a + 3) (wk1 at_)) (S.A (a + 4) (wk1 at_))) (y := sn1) (mm_ior_lt rs.2 rc.2)
    have eW : ∀ u : Int, 0 ≤ u → u < 12 → (pp_nb (pp_Wf (S.I a 10) (S.A (a + 3))) (wk1 at_) u ↔ mm_bt (S.A (a + 3) (wk1 at_)) u = true ∨ mm_bt (S.A (a + 4) (wk1 at_)) u = true) := by
      intro u u0 u1
      have g2 := hG.2.1 (wk1 at_) u r.1 (by omega) u0 u1
      constructor
      · rintro (z | z)
        · have := pp_Wf_in _ _ _ _ z
          rw [pp_Wf_eq this] at z
          exact Or.inr (g2.trans z)
        · have := pp_Wf_in _ _ _ _ z
          rw [pp_Wf_eq this] at z
          exact Or.inl z
      · rintro (z | z)
        · have g := hG.1 u (wk1 at_) u0 u1 r.1 (by omega) z
          exact Or.inr ((pp_Wf_eq ⟨u0, g.1, r.1, r.2⟩).trans z)
        · rw [g2] at z
          have g := hG.1 (wk1 at_) u r.1 (by omega) u0 u1 z
          exact Or.inl ((pp_Wf_eq ⟨r.1, r.2, u0, g.2⟩).trans z)
    have hfd : ∀ u : Int, 0 ≤ u → (mm_bt (mm_idf (mm_ior (S.A (a + 3) (wk1 at_)) (S.A (a + 4) (wk1 at_))) sn1) u = true ↔ pp_nb (pp_Wf (S.I a 10) (S.A (a + 3))) (wk1 at_) u ∧ mm_bt sn1 u = false) := by
      intro u u0
      rw [mm_bt_df, mm_bt_or, Bool.and_eq_true_iff, Bool.or_eq_true_iff, Bool.not_eq_true']
      by_cases u1 : u < 12
      · rw [eW u u0 u1]
      · constructor
        · rintro ⟨z | z, _⟩
          · rw [mm_bt_lt rs.2 (by omega)] at z; cases z
          · rw [mm_bt_lt rc.2 (by omega)] at z; cases z
        · rintro ⟨z, _⟩
          have := bb_nb_r (pp_Wf_in _ _) z
          omega
    have e2 : mm_r8_70 E (mm_ev E d) (m + 1) (mm_ad B 40) (mm_ad B a) (mm_i sn1) (mm_i sz1) (mm_i at_) (mm_i (wk1 at_)) o6 o7 (mm_hp B ((S.sA 55 wk1).sA 56 iw1) c) = mm_r8_94 E (mm_ev E d) m (mm_ad B 40) (mm_ad B a) (mm_i sn1) (mm_i sz1) (mm_i at_) (mm_i (wk1 at_)) (mm_i (mm_idf (mm_ior (S.A (a + 3) (wk1 at_)) (S.A (a + 4) (wk1 at_))) sn1)) (mm_i 0) (mm_hp B ((S.sA 55 wk1).sA 56 iw1) c) := by
      rw [mm_e8_70]
      simp (disch := omega) only [mm_ptN, mm_gs, mm_gA_ne]
      rw [mm_i_or rs.1 rc.1, mm_i_andn (mm_ior_nn _ _) b2.1]
    obtain ⟨m2, sz2, wk2, iw2, p5, p6, p7, r1, r2, r3⟩ := l_walkIn (E := E) (d := d) (B := B) (S := S) (c := c) (a := a) (at_ := at_) (sz := sz1) (sn := sn1) (fd := mm_idf (mm_ior (S.A (a + 3) (wk1 at_)) (S.A (a + 4) (wk1 at_))) sn1) (s := wk1 at_) (wk := wk1) (iw := iw1) (x4 := mm_i at_) (by omega) ha hn fd0 (by omega) (fun u u0 hu => ((hfd u u0).mp hu).2) rfl (S.I a 10).toNat m 0 sz1 wk1 iw1 (by omega) (by omega) (by omega) ⟨⟨Int.le_refl _, by
      rw [b1.2.2]
      apply mm_cnt_congr
      intro i i0 _
      rw [decide_eq_false (by omega), Bool.and_false, Bool.or_false]⟩, fun _ _ => rfl, fun i i0 i1 => by omega, fun i j i0 ij j1 => by omega, fun u u0 u1 => by omega, fun u => by rw [if_neg (by omega)]⟩
    have hB' := bb_IN_end hn.2 (pp_Wf_in _ _) hG.2.2.1 hB lt fd0 fd1 hfd r2
    rw [mm_i_or b2.1 fd0] at r3
    obtain ⟨sn', wk', iw', q1, q2⟩ := ih m2 (at_ + 1) sz2 _ wk2 iw2 p5 p6 p7 (by omega) (by omega) hB'
    exact ⟨sn', wk', iw', q1, by rw [e1, e2, r3]; exact q2⟩
theorem c_walk (hd : 3 ≤ d) (ha : a = 3 ∨ a = 14 ∨ a = 25) (hN : pp_NK S a) (hG : pp_GK S a) : ∃ (sn' : Int) (wk' iw' : Int → Int), bb_BI (S.I a 10) (pp_Wf (S.I a 10) (S.A (a + 3))) (S.I a 10) (S.I a 10) sn' wk' iw' ∧ mm_ev E d 8 [.ref (mm_ad B 40), .ref (mm_ad B a)] (mm_hp B S c) = mm_oV (mm_hp B ((S.sA 55 wk').sA 56 iw') c) := by
  have hn := hN.1
  obtain ⟨e, rfl⟩ : ∃ k, d = k + 1 := ⟨d - 1, by omega⟩
  obtain ⟨F, hF, h⟩ := mm_w8 E e B S c (mm_ad B a)
  have z0 : ∀ u, mm_bt 0 u = false := mm_bt_0
  have zc : ∀ k : Nat, mm_cnt (mm_bt 0) k = 0 := by
    intro k
    induction k with
    | zero => rfl
    | succ k ih =>
      show mm_cnt (mm_bt 0) k + mm_b1 (mm_bt 0 k) = 0
      rw [ih, z0]; rfl
  obtain ⟨sn', wk', iw', q1, q2⟩ := l_walk (E := E) (d := e) (B := B) (S := S) (c := c) (a := a) (by omega) ha hN hG (S.I a 10).toNat (F + 99) 0 0 0 (S.A 55) (S.A 56) none none none (by omega) (by omega) ⟨⟨by omega, by omega, (zc _).symm⟩, ⟨by omega, by omega, (fun u _ hu => by rw [z0] at hu; cases hu)⟩, fun i i0 i1 => by omega, fun i j i0 ij j1 => by omega, fun u u0 u1 => ⟨(fun hu => by rw [z0] at hu; cases hu), (fun ⟨i, i0, i1, _⟩ => by omega)⟩, fun i i0 i1 => by omega, fun i i0 i1 => by omega, fun i j j0 ji i1 => by omega⟩
  simp only [pp_sA_id] at q2
  exact ⟨sn', wk', iw', q1, by rw [h, mm_e8_0]; exact q2⟩
end
