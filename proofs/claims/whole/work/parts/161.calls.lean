/-! SMALL CALLS, class and model side by side -/
section
variable {E : mm_E} {d B : Nat} {S : mm_S} {k : Nat}
theorem iv_C {J : Nat} {as : List Value} {V : Int} {P : Prop} [Decidable P] {x : Nat} {K : Nat} {bs : List Value} {cd : Nat → Int} (hi : iv S k) (hx : 0 < cd x) (h : ∀ c : mm_N, mm_ev E d J as (mm_hp B S c) = if P then mm_oI V (mm_hp B S c) else pp_th x S c B) (h1 : P → ∀ (o : Int → Int) c, mm_ev E d K bs (mm_hp B (S.sL 123 o) c) = mm_oI V (mm_hp B ((S.sL 123 o).sI 101 0 0) c)) (h2 : ¬ P → ∀ c, ∃ b, mm_ev E d K bs (mm_hp B S c) = mm_oI b (mm_hp B (S.sI 101 0 (cd x)) c)) : iv_ok E B d S k J as K bs cd := by
  by_cases p : P
  · exact iv_same hi V (fun c => by rw [h, if_pos p]) (h1 p)
  · exact iv_thr hi x hx (fun c => by rw [h, if_neg p]) (h2 p)
theorem i_fault (h : iv S k) (hd : 1 ≤ d) : iv_ok0 E B d S k 104 [.ref (mm_ad B 0)] 241 [.ref (mm_ad B 101)] := by
  have e := h.2.2.2.2.2.2.2.2.1
  refine fun c => ⟨S, S.sI 101 0 0, S.I 0 13, ?_, ?_, iv_up (iv_sc h 0) (by omega)⟩
  · refine mm_v104 hd (fun F e hF he => ?_)
    simp (disch := omega) only [mm_e104_0, mm_ptP]
  · refine mm_v241 hd (fun F e' hF he => ?_)
    simp (disch := omega) only [mm_e241_0, mm_ptM, mm_gs]
    rw [mm_gI_ne (by omega), e]
noncomputable def iv_cnt (S : mm_S) (w : Int) : Int := if w = 0 then S.I 3 10 else if w = 1 then S.A 102 2 else if w = 2 then S.I 3 11 else if w = 3 then S.I 3 10 - S.A 102 2 else if w = 4 then pp_sm (fun s => if S.A (3 + 1) (s * 7 + 6) = -1 then 0 else 1) (S.I 3 10).toNat else if w = 5 then S.I 36 3 else S.I 1 1
theorem i_countC (h : iv S k) (hd : 3 ≤ d) {w : Int} (hw : iv_n w) (c : mm_N) : mm_ev E d 105 [.ref (mm_ad B 0), .int (mm_i w)] (mm_hp B S c) = if 0 ≤ w ∧ w < 7 then mm_oI (iv_cnt S w) (mm_hp B S c) else pp_th 0 S c B := by
  obtain ⟨w1, w2⟩ := hw
  have hN := h.2.1.2.2.1
  have e2 := (iv_RL h).2.2.2.2.2.2
  refine mm_v105 (by omega) (fun F e hF he => ?_)
  have c1 := c_supplyCount (E := E) (d := e) (B := B) (c := c) (a := 3) (S := S) (by omega) (by omega) hN.1 hN.2.2.1
  have c2 := c_pinCount (E := E) (d := e) (B := B) (c := c) (a := 3) (S := S) (by omega) (by omega) hN
  rw [← e2] at c1
  unfold iv_cnt
  simp (disch := omega) only [mm_e105_0, mm_br_eq, mm_ptP, mm_ptN, mm_ptA, mm_ptT]
  rw [c1, c2]
  simp only [mm_cI_ok, mm_hm]
  rcases (by omega : w = 0 ∨ w = 1 ∨ w = 2 ∨ w = 3 ∨ w = 4 ∨ w = 5 ∨ w = 6 ∨ ¬ (0 ≤ w ∧ w < 7)) with e | e | e | e | e | e | e | e
  all_goals try (subst e; simp only [Int.reduceEq, Int.reduceLE, Int.reduceLT, and_self, ↓reduceIte, if_true, if_false])
  rw [if_neg e, if_neg (by omega), if_neg (by omega), if_neg (by omega), if_neg (by omega), if_neg (by omega), if_neg (by omega), if_neg (by omega)]
  rfl
theorem l_countM (h : iv S k) (hd : 1 ≤ d) (c : mm_N) (x1 : Int32) : ∀ (j k n : Nat), (S.I 3 10).toNat = k + j → j < n → mm_r168_83 E (mm_ev E d) n (mm_ad B 101) x1 (mm_i (pp_sm (fun s => if S.A (3 + 1) (s * 7 + 6) = -1 then 0 else 1) k)) (mm_i k) (mm_hp B S c) = mm_oI (pp_sm (fun s => if S.A (3 + 1) (s * 7 + 6) = -1 then 0 else 1) (S.I 3 10).toNat) (mm_hp B S c) := by
  have hN := h.2.1.2.2.1
  have hn := hN.1
  have hR := iv_RL h
  have eN := iv_N h
  intro j
  induction j with
  | zero =>
    intro k n hk hj
    obtain ⟨n, rfl⟩ : ∃ m, n = m + 1 := ⟨n - 1, by omega⟩
    rw [mm_e168_83, c_many hd, mm_cI_ok]
    simp (disch := omega) only [mm_br_le]
    rw [if_pos (by omega), show (S.I 3 10).toNat = k from hk]
  | succ j ih =>
    intro k n hk hj
    obtain ⟨n, rfl⟩ : ∃ m, n = m + 1 := ⟨n - 1, by omega⟩
    have ih := ih (k + 1) n (by omega) (by omega)
    rw [Int.natCast_add, Int.natCast_one, pp_sm] at ih
    have t := hN.2.2.2.2 k (by omega) (by omega)
    unfold pp_tR at t
    rw [mm_e168_83, c_many hd, mm_cI_ok]
    simp (disch := omega) only [mm_br_le]
    rw [if_neg (by omega), c_of hd (by omega) (by omega) (by omega) (by omega), mm_cI_ok, hR.2.2.2.1 k 6 (by omega) (by omega) (by omega) (by omega)]
    simp (disch := omega) only [mm_hm, mm_br_eq]
    rw [← ih]
    by_cases e : S.A (3 + 1) ((k : Int) * 7 + 6) = -1
    · simp only [if_pos e]
    · simp only [if_neg e]
theorem i_countM (h : iv S k) (hd : 3 ≤ d) {w : Int} (hw : iv_n w) (c : mm_N) : mm_ev E d 168 [.ref (mm_ad B 101), .int (mm_i w)] (mm_hp B S c) = if 0 ≤ w ∧ w < 7 then mm_oI (iv_cnt S w) (mm_hp B (S.sI 101 0 0) c) else mm_oI 0 (mm_hp B ((S.sI 101 0 0).sI 101 0 1) c) := by
  obtain ⟨w1, w2⟩ := hw
  have hN := h.2.1.2.2.1
  have eN := iv_N h
  have e1 : S.A 102 1 = S.I 3 11 := h.2.1.2.1.2.1.symm
  have e4 : S.I 101 4 = S.I 36 3 := h.2.2.2.2.2.1.1
  have e26 : S.I 101 26 = S.I 1 1 := h.1.1
  refine mm_v168 (by omega) (fun F e hF he => ?_)
  have l := l_countM (E := E) (d := e) (B := B) (iv_sc h 0) (by omega) c (mm_i w) (S.I 3 10).toNat 0 (F + 99) (by show (S.I 3 10).toNat = _; omega) (by have := hN.1; omega)
  unfold iv_cnt
  simp (disch := omega) only [mm_e168_0, mm_br_eq, mm_ptM]
  rw [c_many (by omega), c_fail (by omega)]
  simp (disch := omega) only [mm_cI_ok, mm_hm, mm_ptM, mm_gs, pp_ne, mm_gI_ne]
  rcases (by omega : w = 0 ∨ w = 1 ∨ w = 2 ∨ w = 3 ∨ w = 4 ∨ w = 5 ∨ w = 6 ∨ ¬ (0 ≤ w ∧ w < 7)) with e | e | e | e | e | e | e | e
  · subst e; simp only [Int.reduceEq, Int.reduceLE, Int.reduceLT, and_self, ↓reduceIte, if_true, if_false, eN]
  · subst e; simp only [Int.reduceEq, Int.reduceLE, Int.reduceLT, and_self, ↓reduceIte, if_true, if_false]
  · subst e; simp only [Int.reduceEq, Int.reduceLE, Int.reduceLT, and_self, ↓reduceIte, if_true, if_false, e1]
  · subst e; simp only [Int.reduceEq, Int.reduceLE, Int.reduceLT, and_self, ↓reduceIte, if_true, if_false, eN]
  · subst e; simp only [Int.reduceEq, Int.reduceLE, Int.reduceLT, and_self, ↓reduceIte, if_true, if_false]
    exact l
  · subst e; simp only [Int.reduceEq, Int.reduceLE, Int.reduceLT, and_self, ↓reduceIte, if_true, if_false, e4]
  · subst e; simp only [Int.reduceEq, Int.reduceLE, Int.reduceLT, and_self, ↓reduceIte, if_true, if_false, e26]
  rw [if_neg e, if_neg (by omega), if_neg (by omega), if_neg (by omega), if_neg (by omega), if_neg (by omega), if_neg (by omega), if_neg (by omega)]
theorem iv_s2 (S : mm_S) (u v : Int) : (S.sI 101 0 u).sI 101 0 v = S.sI 101 0 v := by
  simp (disch := omega) only [mm_gs]
theorem i_count (h : iv S k) (hd : 3 ≤ d) {w : Int} (hw : iv_n w) : iv_ok E B d S k 105 [.ref (mm_ad B 0), .int (mm_i w)] 168 [.ref (mm_ad B 101), .int (mm_i w)] iv_c1 := by
  refine iv_C h (x := 0) (by decide) (i_countC h hd hw) (fun p o c => ?_) (fun p c => ⟨0, ?_⟩)
  · have g := i_countM (E := E) (d := d) (B := B) (iv_sL h o) hd hw c
    rw [if_pos p] at g
    exact g
  · rw [i_countM h hd hw c, if_neg p, iv_s2]
    rfl
end
