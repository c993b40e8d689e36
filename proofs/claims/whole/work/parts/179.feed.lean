/-! FEED: bytes of five words -/
def iv_by (x : Int32) (s : Int) : Int := ((x >>> (mm_i s &&& 31)) &&& mm_i 255).toInt
theorem iv_by_r (x : Int32) (s : Int) : 0 ≤ iv_by x s ∧ iv_by x s ≤ 255 := pp_and255 _
theorem iv_by_i (x : Int32) (s : Int) : (x >>> (mm_i s &&& 31)) &&& mm_i 255 = mm_i (iv_by x s) := (Int32.ofInt_toInt _).symm
theorem iv_by24 (x : Int32) : ((x.toUInt32 >>> ((mm_i 24 : Int32).toUInt32 &&& Int32.toUInt32 31)).toInt32) &&& mm_i 255 = (x >>> (mm_i 24 &&& 31)) &&& mm_i 255 := by
  apply Int32.toBitVec_inj.mp
  show (x.toBitVec >>> (24 : Nat)) &&& 255#32 = (x.toBitVec.sshiftRight 24) &&& 255#32
  exact pp_sh _ _ (by omega)
theorem iv_by16 (x : Int32) : ((x.toUInt32 >>> ((mm_i 16 : Int32).toUInt32 &&& Int32.toUInt32 31)).toInt32) &&& mm_i 255 = (x >>> (mm_i 16 &&& 31)) &&& mm_i 255 := by
  apply Int32.toBitVec_inj.mp
  show (x.toBitVec >>> (16 : Nat)) &&& 255#32 = (x.toBitVec.sshiftRight 16) &&& 255#32
  exact pp_sh _ _ (by omega)
theorem iv_by8 (x : Int32) : ((x.toUInt32 >>> ((mm_i 8 : Int32).toUInt32 &&& Int32.toUInt32 31)).toInt32) &&& mm_i 255 = (x >>> (mm_i 8 &&& 31)) &&& mm_i 255 := by
  apply Int32.toBitVec_inj.mp
  show (x.toBitVec >>> (8 : Nat)) &&& 255#32 = (x.toBitVec.sshiftRight 8) &&& 255#32
  exact pp_sh _ _ (by omega)
theorem iv_by0 (x : Int32) : ((x.toUInt32 >>> ((mm_i 0 : Int32).toUInt32 &&& Int32.toUInt32 31)).toInt32) &&& mm_i 255 = (x >>> (mm_i 0 &&& 31)) &&& mm_i 255 := by
  apply Int32.toBitVec_inj.mp
  show (x.toBitVec >>> (0 : Nat)) &&& 255#32 = (x.toBitVec.sshiftRight 0) &&& 255#32
  exact pp_sh _ _ (by omega)
theorem iv_byC (x : Int32) {i : Int} (h0 : 0 ≤ i) (h1 : i < 4) : ((x.toUInt32 >>> ((mm_i (24 - 8 * i) : Int32).toUInt32 &&& Int32.toUInt32 31)).toInt32) &&& mm_i 255 = mm_i (iv_by x (24 - 8 * i)) := by
  rcases (by omega : i = 0 ∨ i = 1 ∨ i = 2 ∨ i = 3) with rfl | rfl | rfl | rfl
  · exact (iv_by24 x).trans (iv_by_i x 24)
  · exact (iv_by16 x).trans (iv_by_i x 16)
  · exact (iv_by8 x).trans (iv_by_i x 8)
  · exact (iv_by0 x).trans (iv_by_i x 0)
def iv_wp (x : Int32) (L i : Int) (f : Int → Int) : Int → Int := fun z => if L + i ≤ z ∧ z < L + 4 then iv_by x (24 - 8 * (z - L)) else f z
theorem iv_wp4 (x : Int32) (L : Int) (f : Int → Int) : iv_wp x L 4 f = f := by
  funext z
  unfold iv_wp
  rw [if_neg (by omega)]
theorem iv_wps (x : Int32) (L : Int) (f : Int → Int) {i : Int} (h0 : 0 ≤ i) (h1 : i < 4) : iv_wp x L (i + 1) (mm_u f (L + i) (iv_by x (24 - 8 * i))) = iv_wp x L i f := by
  funext z
  unfold iv_wp
  by_cases q : z = L + i
  · rw [if_neg (by omega), q, mm_u_eq, if_pos (by omega), show L + i - L = i by omega]
  · rw [mm_u_ne q]
    by_cases y : L + i ≤ z ∧ z < L + 4
    · rw [if_pos y, if_pos (by omega)]
    · rw [if_neg y, if_neg (by omega)]
def iv_wd (x1 x2 x3 x4 x5 : Int32) (q : Int) : Int32 := if q < 4 then x1 else if q < 8 then x2 else if q < 12 then x3 else if q < 16 then x4 else x5
def iv_b5 (x1 x2 x3 x4 x5 : Int32) (q : Int) : Int := iv_by (iv_wd x1 x2 x3 x4 x5 q) (24 - 8 * (q % 4))
def iv_w5 (x1 x2 x3 x4 x5 : Int32) (L i : Int) (f : Int → Int) : Int → Int := fun z => if L + i ≤ z ∧ z < L + 20 then iv_b5 x1 x2 x3 x4 x5 (z - L) else f z
theorem iv_w5n (x1 x2 x3 x4 x5 : Int32) (L : Int) (f : Int → Int) : iv_w5 x1 x2 x3 x4 x5 L 20 f = f := by
  funext z
  unfold iv_w5
  rw [if_neg (by omega)]
theorem iv_w5s (x1 x2 x3 x4 x5 : Int32) (L : Int) (f : Int → Int) {i : Int} (h0 : 0 ≤ i) (h1 : i < 20) : iv_w5 x1 x2 x3 x4 x5 L (i + 1) (mm_u f (L + i) (iv_b5 x1 x2 x3 x4 x5 i)) = iv_w5 x1 x2 x3 x4 x5 L i f := by
  funext z
  unfold iv_w5
  by_cases q : z = L + i
  · rw [if_neg (by omega), q, mm_u_eq, if_pos (by omega), show L + i - L = i by omega]
  · rw [mm_u_ne q]
    by_cases y : L + i ≤ z ∧ z < L + 20
    · rw [if_pos y, if_pos (by omega)]
    · rw [if_neg y, if_neg (by omega)]
theorem iv_w55 (x1 x2 x3 x4 x5 : Int32) (L : Int) (f : Int → Int) : iv_wp x5 (L + 16) 0 (iv_wp x4 (L + 12) 0 (iv_wp x3 (L + 8) 0 (iv_wp x2 (L + 4) 0 (iv_wp x1 L 0 f)))) = iv_w5 x1 x2 x3 x4 x5 L 0 f := by
  funext z
  unfold iv_w5 iv_wp iv_b5 iv_wd
  by_cases a : L + 16 + 0 ≤ z ∧ z < L + 16 + 4
  · rw [if_pos a, if_pos (by omega), if_neg (show ¬ z - L < 4 by omega), if_neg (show ¬ z - L < 8 by omega), if_neg (show ¬ z - L < 12 by omega), if_neg (show ¬ z - L < 16 by omega), show (z - L) % 4 = z - (L + 16) by omega]
  rw [if_neg a]
  by_cases b : L + 12 + 0 ≤ z ∧ z < L + 12 + 4
  · rw [if_pos b, if_pos (by omega), if_neg (show ¬ z - L < 4 by omega), if_neg (show ¬ z - L < 8 by omega), if_neg (show ¬ z - L < 12 by omega), if_pos (show z - L < 16 by omega), show (z - L) % 4 = z - (L + 12) by omega]
  rw [if_neg b]
  by_cases c : L + 8 + 0 ≤ z ∧ z < L + 8 + 4
  · rw [if_pos c, if_pos (by omega), if_neg (show ¬ z - L < 4 by omega), if_neg (show ¬ z - L < 8 by omega), if_pos (show z - L < 12 by omega), show (z - L) % 4 = z - (L + 8) by omega]
  rw [if_neg c]
  by_cases d : L + 4 + 0 ≤ z ∧ z < L + 4 + 4
  · rw [if_pos d, if_pos (by omega), if_neg (show ¬ z - L < 4 by omega), if_pos (show z - L < 8 by omega), show (z - L) % 4 = z - (L + 4) by omega]
  rw [if_neg d]
  by_cases e : L + 0 ≤ z ∧ z < L + 4
  · rw [if_pos e, if_pos (by omega), if_pos (show z - L < 4 by omega), show (z - L) % 4 = z - L by omega]
  · rw [if_neg e, if_neg (by omega)]
section
variable {E : mm_E} {d B : Nat} {S : mm_S} {k : Nat}
theorem l_putB {x : Int32} {L : Int} (hL : 0 ≤ L) (hL2 : L + 4 ≤ 400) (cl : mm_F) (c : mm_N) : ∀ (j i n : Nat) (f : Int → Int), i + j = 4 → 2 * j < n → mm_r93_3 E cl n (mm_ad B 1) x (mm_i (24 - 8 * i)) (mm_hp B ((S.sA 2 f).sI 1 1 (L + i)) c) = mm_oV (mm_hp B ((S.sA 2 (iv_wp x L i f)).sI 1 1 (L + 4)) c) := by
  intro j
  induction j with
  | zero =>
    intro i n f hi hn
    obtain ⟨n, rfl⟩ : ∃ q, n = q + 1 := ⟨n - 1, by omega⟩
    rw [mm_e93_3]
    simp (disch := omega) only [mm_br_lt]
    rw [if_pos (by omega), show i = 4 by omega, show ((4 : Nat) : Int) = 4 from rfl, iv_wp4]
  | succ j ih =>
    intro i n f hi hn
    obtain ⟨n, rfl⟩ : ∃ q, n = q + 2 := ⟨n - 2, by omega⟩
    have ih := ih (i + 1) n (mm_u f (L + i) (iv_by x (24 - 8 * i))) (by omega) (by omega)
    rw [Int.natCast_add, Int.natCast_one, iv_wps _ _ _ (by omega) (by omega)] at ih
    have i1 : ∀ g : Int → Int, ((S.sA 2 g).sI 1 1 (L + i)).I 1 1 = L + i := fun g => mm_gs.1 _ _ _ _
    rw [← ih, mm_e93_3]
    simp (disch := omega) only [mm_br_lt, mm_ptT, mm_gs, mm_br_le]
    rw [if_neg (by omega), if_neg (by omega), iv_byC x (by omega) (by omega)]
    simp (disch := omega) only [mm_ptT, mm_gs, mm_e93_33, mm_hm]
    have q : (((S.sA 2 f).sI 1 1 (L + i)).sA 2 (mm_u f (L + i) (iv_by x (24 - 8 * i)))).sI 1 1 (L + i + 1) = (S.sA 2 (mm_u f (L + i) (iv_by x (24 - 8 * i)))).sI 1 1 (L + (i + 1)) := by
      show (((S.sA 2 f).sA 2 (mm_u f (L + i) (iv_by x (24 - 8 * i)))).sI 1 1 (L + i)).sI 1 1 (L + i + 1) = _
      simp only [mm_gs]
      rw [show L + (i : Int) + 1 = L + (i + 1) by omega]
    rw [q, show 24 - 8 * (i : Int) + -8 = 24 - 8 * (i + 1) by omega]
theorem c_putB {x : Int32} {L : Int} {f : Int → Int} (hd : 1 ≤ d) (hL : 0 ≤ L) (hL2 : L + 4 ≤ 400) (c : mm_N) : mm_ev E d 93 [.ref (mm_ad B 1), .int x] (mm_hp B ((S.sA 2 f).sI 1 1 L) c) = mm_oV (mm_hp B ((S.sA 2 (iv_wp x L 0 f)).sI 1 1 (L + 4)) c) := by
  refine mm_v93 hd (fun F e hF he => ?_)
  have l := l_putB (E := E) (B := B) (S := S) (x := x) hL hL2 (mm_ev E e) c 4 0 (F + 99) f (by omega) (by omega)
  rw [show ((0 : Nat) : Int) = 0 from rfl, show L + 0 = L by omega] at l
  rw [mm_e93_0]
  exact l
theorem l_feedM {x1 x2 x3 x4 x5 : Int32} {L : Int} (hL : 0 ≤ L) (hL2 : L + 20 ≤ 400) (cl : mm_F) (c : mm_N) : ∀ (j i n : Nat) (f : Int → Int) (o7 : Option Value), i + j = 20 → 3 * j < n → mm_r228_23 E cl n (mm_ad B 101) x1 x2 x3 x4 x5 (mm_i i) o7 (mm_hp B ((S.sA 122 f).sI 101 26 (L + i)) c) = mm_oI (L + 20) (mm_hp B ((S.sA 122 (iv_w5 x1 x2 x3 x4 x5 L i f)).sI 101 26 (L + 20)) c) := by
  intro j
  induction j with
  | zero =>
    intro i n f o7 hi hn
    obtain ⟨n, rfl⟩ : ∃ q, n = q + 1 := ⟨n - 1, by omega⟩
    rw [mm_e228_23]
    simp (disch := omega) only [mm_br_le]
    rw [if_pos (by omega)]
    simp (disch := omega) only [mm_ptM, mm_gs]
    rw [show i = 20 by omega, show ((20 : Nat) : Int) = 20 from rfl, iv_w5n]
  | succ j ih =>
    intro i n f o7 hi hn
    obtain ⟨n, rfl⟩ : ∃ q, n = q + 3 := ⟨n - 3, by omega⟩
    have ih := ih (i + 1) n (mm_u f (L + i) (iv_b5 x1 x2 x3 x4 x5 i)) (some (.int (iv_wd x1 x2 x3 x4 x5 i))) (by omega) (by omega)
    rw [Int.natCast_add, Int.natCast_one, iv_w5s _ _ _ _ _ _ _ (by omega) (by omega)] at ih
    have key : ∀ y : Int32, y = iv_wd x1 x2 x3 x4 x5 i → mm_r228_76 E cl (n + 2) (mm_ad B 101) x1 x2 x3 x4 x5 (mm_i i) o7 y (mm_hp B ((S.sA 122 f).sI 101 26 (L + i)) c) = mm_oI (L + 20) (mm_hp B ((S.sA 122 (iv_w5 x1 x2 x3 x4 x5 L i f)).sI 101 26 (L + 20)) c) := fun y hy => by
      have eb : iv_by y (24 - 8 * ((i : Int) % 4)) = iv_b5 x1 x2 x3 x4 x5 i := by rw [hy]; rfl
      have ea : (mm_i 24) - ((mm_i 8) * (mm_i i - mm_i i / (mm_i 4) * (mm_i 4))) = mm_i (24 - 8 * ((i : Int) % 4)) := by
        rw [mm_i_div (by omega) (by omega) (by omega) (by omega), mm_i_mul, mm_i_sub, mm_i_mul, mm_i_sub, show (i : Int) - i / 4 * 4 = i % 4 by omega]
      rw [← ih, mm_e228_76]
      simp (disch := omega) only [mm_ptM, mm_gs, mm_nz_i]
      rw [ea, iv_by_i, eb]
      simp (disch := omega) only [mm_ptM, mm_gs, mm_e228_104, mm_hm]
      have q : (((S.sA 122 f).sI 101 26 (L + i)).sA 122 (mm_u f (L + i) (iv_b5 x1 x2 x3 x4 x5 i))).sI 101 26 (L + i + 1) = (S.sA 122 (mm_u f (L + i) (iv_b5 x1 x2 x3 x4 x5 i))).sI 101 26 (L + (i + 1)) := by
        show (((S.sA 122 f).sA 122 (mm_u f (L + i) (iv_b5 x1 x2 x3 x4 x5 i))).sI 101 26 (L + i)).sI 101 26 (L + i + 1) = _
        simp only [mm_gs]
        rw [show L + (i : Int) + 1 = L + (i + 1) by omega]
      rw [q, hy]
    rw [mm_e228_23]
    simp (disch := omega) only [mm_br_le]
    rw [if_neg (by omega)]
    unfold iv_wd at key
    by_cases a : (4 : Int) ≤ i
    · rw [if_pos a]
      by_cases b : (8 : Int) ≤ i
      · rw [if_pos b]
        by_cases e : (12 : Int) ≤ i
        · rw [if_pos e]
          by_cases g : (16 : Int) ≤ i
          · rw [if_pos g]
            exact key x5 (by rw [if_neg (by omega), if_neg (by omega), if_neg (by omega), if_neg (by omega)])
          · rw [if_neg g]
            exact key x4 (by rw [if_neg (by omega), if_neg (by omega), if_neg (by omega), if_pos (by omega)])
        · rw [if_neg e]
          exact key x3 (by rw [if_neg (by omega), if_neg (by omega), if_pos (by omega)])
      · rw [if_neg b]
        exact key x2 (by rw [if_neg (by omega), if_pos (by omega)])
    · rw [if_neg a]
      exact key x1 (by rw [if_pos (by omega)])
theorem pp_sI_id (S : mm_S) (b i : Nat) : S.sI b i (S.I b i) = S := by
  apply pp_ext
  · intro x y
    by_cases e : x = b ∧ y = i
    · rw [e.1, e.2]
      exact mm_gs.1 _ _ _ _
    · exact mm_gI_ne (by omega)
  · intros; rfl
  · intros; rfl
  · intros; rfl
/-- the tape changed -/
theorem iv_tp {T : mm_S} (h : iv S k) (hI : ∀ x k, iv_rI x k → ¬ (x = 1 ∧ k = 1) → ¬ (x = 101 ∧ k = 26) → T.I x k = S.I x k) (hA : ∀ x, iv_rA x → x ≠ 2 → x ≠ 122 → T.A x = S.A x) (hT : iv_TP T) : iv T k := by
  have g : iv ((((S.sI 1 1 (T.I 1 1)).sI 101 26 (T.I 101 26)).sA 2 (T.A 2)).sA 122 (T.A 122)) k := ⟨hT, h.2.1, h.2.2.1, h.2.2.2.1, h.2.2.2.2.1, h.2.2.2.2.2.1, h.2.2.2.2.2.2.1, h.2.2.2.2.2.2.2.1, h.2.2.2.2.2.2.2.2.1, h.2.2.2.2.2.2.2.2.2⟩
  refine iv_fr g (fun x k hx => ?_) (fun x hx => ?_)
  · by_cases e1 : x = 1 ∧ k = 1
    · rw [e1.1, e1.2]; rfl
    · by_cases e2 : x = 101 ∧ k = 26
      · rw [e2.1, e2.2]; rfl
      · show T.I x k = ((S.sI 1 1 (T.I 1 1)).sI 101 26 (T.I 101 26)).I x k
        rw [mm_gI_ne (by omega), mm_gI_ne (by omega)]
        exact hI x k hx e1 e2
  · by_cases e6 : x = 122
    · rw [e6, mm_gs.2.2.2.2.2.2.2.2.1]
    · rw [mm_gA_ne e6]
      by_cases e2 : x = 2
      · rw [e2, mm_gs.2.2.2.2.2.2.2.2.1]
      · rw [mm_gA_ne e2]
        exact hA x hx e2 e6
theorem i_feed (h : iv S k) (hd : 3 ≤ d) (x1 x2 x3 x4 x5 : Int32) : iv_ok0 E B d S k 102 [.ref (mm_ad B 0), .int x1, .int x2, .int x3, .int x4, .int x5] 228 [.ref (mm_ad B 101), .int x1, .int x2, .int x3, .int x4, .int x5] := by
  intro c
  obtain ⟨p1, p2, p3, p4⟩ := h.1
  obtain ⟨e, rfl⟩ : ∃ e, d = e + 1 := ⟨d - 1, by omega⟩
  obtain ⟨F, hF, he⟩ := mm_w102 E e B S c x1 x2 x3 x4 x5
  rw [mm_e102_0] at he
  simp (disch := omega) only [mm_ptP, mm_ptT, mm_hm, mm_br_le] at he
  by_cases q : S.I 1 1 + 20 ≤ 400
  · rw [if_pos q] at he
    have z0 : (S.sA 2 (S.A 2)).sI 1 1 (S.I 1 1) = S := by rw [pp_sA_id]; exact pp_sI_id S 1 1
    have c1 := c_putB (E := E) (d := e) (B := B) (S := S) (x := x1) (L := S.I 1 1) (f := S.A 2) (by omega) p2 (by omega) c
    rw [z0] at c1
    have c2 := c_putB (E := E) (d := e) (B := B) (S := S) (x := x2) (L := S.I 1 1 + 4) (f := iv_wp x1 (S.I 1 1) 0 (S.A 2)) (by omega) (by omega) (by omega) c
    have c3 := c_putB (E := E) (d := e) (B := B) (S := S) (x := x3) (L := S.I 1 1 + 4 + 4) (f := iv_wp x2 (S.I 1 1 + 4) 0 (iv_wp x1 (S.I 1 1) 0 (S.A 2))) (by omega) (by omega) (by omega) c
    have c4 := c_putB (E := E) (d := e) (B := B) (S := S) (x := x4) (L := S.I 1 1 + 4 + 4 + 4) (f := iv_wp x3 (S.I 1 1 + 4 + 4) 0 (iv_wp x2 (S.I 1 1 + 4) 0 (iv_wp x1 (S.I 1 1) 0 (S.A 2)))) (by omega) (by omega) (by omega) c
    have c5 := c_putB (E := E) (d := e) (B := B) (S := S) (x := x5) (L := S.I 1 1 + 4 + 4 + 4 + 4) (f := iv_wp x4 (S.I 1 1 + 4 + 4 + 4) 0 (iv_wp x3 (S.I 1 1 + 4 + 4) 0 (iv_wp x2 (S.I 1 1 + 4) 0 (iv_wp x1 (S.I 1 1) 0 (S.A 2))))) (by omega) (by omega) (by omega) c
    have w := iv_w55 x1 x2 x3 x4 x5 (S.I 1 1) (S.A 2)
    rw [show S.I 1 1 + 4 + 4 + 4 + 4 = S.I 1 1 + 16 by omega, show S.I 1 1 + 4 + 4 + 4 = S.I 1 1 + 12 by omega, show S.I 1 1 + 4 + 4 = S.I 1 1 + 8 by omega, show S.I 1 1 + 16 + 4 = S.I 1 1 + 20 by omega, w] at c5
    rw [show S.I 1 1 + 4 + 4 + 4 + 4 = S.I 1 1 + 16 by omega, show S.I 1 1 + 4 + 4 + 4 = S.I 1 1 + 12 by omega, show S.I 1 1 + 4 + 4 = S.I 1 1 + 8 by omega] at c4
    rw [show S.I 1 1 + 4 + 4 + 4 = S.I 1 1 + 12 by omega, show S.I 1 1 + 4 + 4 = S.I 1 1 + 8 by omega] at c3
    rw [show S.I 1 1 + 4 + 4 = S.I 1 1 + 8 by omega] at c2
    rw [c1, mm_cV_ok] at he
    simp (disch := omega) only [mm_ptP] at he
    rw [c2, mm_cV_ok] at he
    simp (disch := omega) only [mm_ptP] at he
    rw [c3, mm_cV_ok, mm_e102_42] at he
    simp (disch := omega) only [mm_ptP] at he
    rw [c4, mm_cV_ok] at he
    simp (disch := omega) only [mm_ptP] at he
    rw [c5, mm_cV_ok] at he
    simp (disch := omega) only [mm_ptP, mm_ptT, mm_gs] at he
    obtain ⟨T, hT⟩ : ∃ T, T = (S.sA 2 (iv_w5 x1 x2 x3 x4 x5 (S.I 1 1) 0 (S.A 2))).sI 1 1 (S.I 1 1 + 20) := ⟨_, rfl⟩
    rw [← hT] at he
    have t1 : T.I 1 1 = S.I 1 1 + 20 := by rw [hT]; exact mm_gs.1 _ _ _ _
    have tI : ∀ x k, ¬ (x = 1 ∧ k = 1) → T.I x k = S.I x k := fun x k hx => by rw [hT]; show (S.sI 1 1 _).I x k = _; exact mm_gI_ne (by omega)
    have t2 : T.A 2 = iv_w5 x1 x2 x3 x4 x5 (S.I 1 1) 0 (S.A 2) := by rw [hT]; exact mm_gs.2.2.2.2.2.2.2.2.1 _ _ _
    have tA : ∀ x, x ≠ 2 → T.A x = S.A x := fun x hx => by rw [hT]; exact mm_gA_ne hx
    obtain ⟨G, hG, ge⟩ := mm_w228 E e B T c x1 x2 x3 x4 x5
    have l := l_feedM (E := E) (B := B) (S := T.sI 101 0 0) (x1 := x1) (x2 := x2) (x3 := x3) (x4 := x4) (x5 := x5) p2 q (mm_ev E e) c 20 0 (G + 99) (T.A 122) none (by omega) (by omega)
    have l26 : T.I 101 26 = S.I 1 1 := by rw [tI 101 26 (by omega), p1]
    have z1 : ((T.sI 101 0 0).sA 122 (T.A 122)).sI 101 26 (S.I 1 1 + ((0 : Nat) : Int)) = T.sI 101 0 0 := by
      have a := pp_sA_id (T.sI 101 0 0) 122
      have a : (T.sI 101 0 0).sA 122 (T.A 122) = _ := a
      have b := pp_sI_id (T.sI 101 0 0) 101 26
      have b' : (T.sI 101 0 0).I 101 26 = S.I 1 1 + ((0 : Nat) : Int) := by
        rw [mm_gI_ne (by omega), l26]
        omega
      rw [b'] at b
      rw [a, b]
    rw [z1] at l
    rw [mm_e228_0] at ge
    simp (disch := omega) only [mm_ptM] at ge
    have i26 : (T.sI 101 0 0).I 101 26 = S.I 1 1 := by rw [mm_gI_ne (by omega), l26]
    rw [i26, mm_i_add, mm_br_le (by omega) (by omega) (by omega) (by omega), if_pos q] at ge
    refine ⟨T, _, S.I 1 1 + 20, he, ge.trans l, iv_up (iv_tp h (fun x k hx n1 n2 => ?_) (fun x hx n1 n2 => ?_) ?_) (by omega)⟩
    · show ((T.sI 101 0 0).sI 101 26 _).I x k = _
      unfold iv_rI at hx
      rw [mm_gI_ne (by omega), mm_gI_ne (by omega)]
      exact tI x k n1
    · show ((T.sI 101 0 0).sA 122 _).A x = _
      rw [mm_gA_ne n2]
      exact tA x n1
    · have y1 : (((T.sI 101 0 0).sA 122 (iv_w5 x1 x2 x3 x4 x5 (S.I 1 1) ((0 : Nat) : Int) (T.A 122))).sI 101 26 (S.I 1 1 + 20)).I 1 1 = S.I 1 1 + 20 := by
        show ((T.sI 101 0 0).sI 101 26 _).I 1 1 = _
        rw [mm_gI_ne (by omega), mm_gI_ne (by omega), t1]
      have y2 : (((T.sI 101 0 0).sA 122 (iv_w5 x1 x2 x3 x4 x5 (S.I 1 1) ((0 : Nat) : Int) (T.A 122))).sI 101 26 (S.I 1 1 + 20)).I 101 26 = S.I 1 1 + 20 := mm_gs.1 _ _ _ _
      have y3 : (((T.sI 101 0 0).sA 122 (iv_w5 x1 x2 x3 x4 x5 (S.I 1 1) ((0 : Nat) : Int) (T.A 122))).sI 101 26 (S.I 1 1 + 20)).A 122 = iv_w5 x1 x2 x3 x4 x5 (S.I 1 1) 0 (S.A 122) := by
        rw [← tA 122 (by omega)]
        exact mm_gs.2.2.2.2.2.2.2.2.1 _ _ _
      have y4 : (((T.sI 101 0 0).sA 122 (iv_w5 x1 x2 x3 x4 x5 (S.I 1 1) ((0 : Nat) : Int) (T.A 122))).sI 101 26 (S.I 1 1 + 20)).A 2 = iv_w5 x1 x2 x3 x4 x5 (S.I 1 1) 0 (S.A 2) := t2
      unfold iv_TP
      rw [y1, y2, y3, y4]
      refine ⟨rfl, by omega, q, fun i i0 i1 => ?_⟩
      unfold iv_w5
      by_cases g : S.I 1 1 + 0 ≤ i ∧ i < S.I 1 1 + 20
      · rw [if_pos g, if_pos g]
        have r := iv_by_r (iv_wd x1 x2 x3 x4 x5 (i - S.I 1 1)) (24 - 8 * ((i - S.I 1 1) % 4))
        exact ⟨rfl, r.1, r.2⟩
      · rw [if_neg g, if_neg g]
        exact p4 i i0 (by omega)
  · rw [if_neg q] at he
    refine ⟨S, S.sI 101 0 0, -1, he, mm_v228 (by omega) (fun F e hF he => ?_), iv_up (iv_sc h 0) (by omega)⟩
    rw [mm_e228_0]
    simp (disch := omega) only [mm_ptM]
    have i26 : (S.sI 101 0 0).I 101 26 = S.I 1 1 := by rw [mm_gI_ne (by omega), p1]
    rw [i26, mm_i_add, mm_br_le (by omega) (by omega) (by omega) (by omega), if_neg q]
end
