/-! THE PURE STATE: what the cells hold, as whole numbers; the shape of the cells stands fast -/
def mm_i (v : Int) : Int32 := Int32.ofInt v
def mm_j (v : Int) : Int64 := Int64.ofInt v
def mm_ad (B k : Nat) : Nat := B + k
/-- ints by object and field, longs so; rows of ints, of longs by place -/
def mm_S : Type := ((Nat → Nat → Int) × (Nat → Nat → Int)) × ((Nat → Int → Int) × (Nat → Int → Int))
def mm_S.I (S : mm_S) (a k : Nat) : Int := S.1.1 a k
def mm_S.J (S : mm_S) (a k : Nat) : Int := S.1.2 a k
def mm_S.A (S : mm_S) (a : Nat) : Int → Int := S.2.1 a
def mm_S.L (S : mm_S) (a : Nat) : Int → Int := S.2.2 a
def mm_S.sI (S : mm_S) (a k : Nat) (v : Int) : mm_S := ((fun b l => if b = a ∧ l = k then v else S.1.1 b l, S.1.2), S.2)
def mm_S.sJ (S : mm_S) (a k : Nat) (v : Int) : mm_S := ((S.1.1, fun b l => if b = a ∧ l = k then v else S.1.2 b l), S.2)
def mm_S.sA (S : mm_S) (a : Nat) (f : Int → Int) : mm_S := (S.1, (fun b => if b = a then f else S.2.1 b, S.2.2))
def mm_S.sL (S : mm_S) (a : Nat) (f : Int → Int) : mm_S := (S.1, (S.2.1, fun b => if b = a then f else S.2.2 b))
def mm_u (f : Int → Int) (i v : Int) : Int → Int := fun j => if j = i then v else f j
theorem mm_u_eq (f : Int → Int) (i v : Int) : mm_u f i v i = v := if_pos rfl
theorem mm_u_ne {f : Int → Int} {i v j : Int} (h : j ≠ i) : mm_u f i v j = f j := if_neg h
theorem mm_u_u (f : Int → Int) (i v w : Int) : mm_u (mm_u f i v) i w = mm_u f i w := by
  funext j
  unfold mm_u
  by_cases h : j = i
  · rw [if_pos h, if_pos h]
  · rw [if_neg h, if_neg h, if_neg h]
-- read behind write
theorem mm_gs : (∀ (S : mm_S) (a k : Nat) (v : Int), (S.sI a k v).I a k = v) ∧ (∀ (S : mm_S) (a k : Nat) (v : Int), (S.sI a k v).J = S.J) ∧ (∀ (S : mm_S) (a k : Nat) (v : Int), (S.sI a k v).A = S.A) ∧ (∀ (S : mm_S) (a k : Nat) (v : Int), (S.sI a k v).L = S.L)
    ∧ (∀ (S : mm_S) (a k : Nat) (v : Int), (S.sJ a k v).J a k = v) ∧ (∀ (S : mm_S) (a k : Nat) (v : Int), (S.sJ a k v).I = S.I) ∧ (∀ (S : mm_S) (a k : Nat) (v : Int), (S.sJ a k v).A = S.A) ∧ (∀ (S : mm_S) (a k : Nat) (v : Int), (S.sJ a k v).L = S.L)
    ∧ (∀ (S : mm_S) (a : Nat) (f : Int → Int), (S.sA a f).A a = f) ∧ (∀ (S : mm_S) (a : Nat) (f : Int → Int), (S.sA a f).I = S.I) ∧ (∀ (S : mm_S) (a : Nat) (f : Int → Int), (S.sA a f).J = S.J) ∧ (∀ (S : mm_S) (a : Nat) (f : Int → Int), (S.sA a f).L = S.L)
    ∧ (∀ (S : mm_S) (a : Nat) (f : Int → Int), (S.sL a f).L a = f) ∧ (∀ (S : mm_S) (a : Nat) (f : Int → Int), (S.sL a f).I = S.I) ∧ (∀ (S : mm_S) (a : Nat) (f : Int → Int), (S.sL a f).J = S.J) ∧ (∀ (S : mm_S) (a : Nat) (f : Int → Int), (S.sL a f).A = S.A)
    ∧ (∀ (S : mm_S) (a : Nat) (f g : Int → Int), (S.sA a f).sA a g = S.sA a g) ∧ (∀ (S : mm_S) (a : Nat) (f g : Int → Int), (S.sL a f).sL a g = S.sL a g) ∧ (∀ (S : mm_S) (a k : Nat) (v w : Int), (S.sI a k v).sI a k w = S.sI a k w) ∧ (∀ (S : mm_S) (a k : Nat) (v w : Int), (S.sJ a k v).sJ a k w = S.sJ a k w) := by
  refine ⟨?_, ?_, ?_, ?_, ?_, ?_, ?_, ?_, ?_, ?_, ?_, ?_, ?_, ?_, ?_, ?_, ?_, ?_, ?_, ?_⟩
  · intro S a k v; show (if a = a ∧ k = k then v else _) = v; rw [if_pos ⟨rfl, rfl⟩]
  · intros; rfl
  · intros; rfl
  · intros; rfl
  · intro S a k v; show (if a = a ∧ k = k then v else _) = v; rw [if_pos ⟨rfl, rfl⟩]
  · intros; rfl
  · intros; rfl
  · intros; rfl
  · intro S a f; show (if a = a then f else _) = f; rw [if_pos rfl]
  · intros; rfl
  · intros; rfl
  · intros; rfl
  · intro S a f; show (if a = a then f else _) = f; rw [if_pos rfl]
  · intros; rfl
  · intros; rfl
  · intros; rfl
  · intro S a f g
    show (S.1, (fun b => if b = a then g else if b = a then f else S.2.1 b), S.2.2) = (S.1, (fun b => if b = a then g else S.2.1 b), S.2.2)
    congr 2; funext b; by_cases h : b = a
    · rw [if_pos h, if_pos h]
    · rw [if_neg h, if_neg h, if_neg h]
  · intro S a f g
    show (S.1, S.2.1, (fun b => if b = a then g else if b = a then f else S.2.2 b)) = (S.1, S.2.1, (fun b => if b = a then g else S.2.2 b))
    congr 2; funext b; by_cases h : b = a
    · rw [if_pos h, if_pos h]
    · rw [if_neg h, if_neg h, if_neg h]
  · intro S a k v w
    show (((fun b l => if b = a ∧ l = k then w else if b = a ∧ l = k then v else S.1.1 b l), S.1.2), S.2) = (((fun b l => if b = a ∧ l = k then w else S.1.1 b l), S.1.2), S.2)
    congr 2; funext b l; by_cases h : b = a ∧ l = k
    · rw [if_pos h, if_pos h]
    · rw [if_neg h, if_neg h, if_neg h]
  · intro S a k v w
    show ((S.1.1, (fun b l => if b = a ∧ l = k then w else if b = a ∧ l = k then v else S.1.2 b l)), S.2) = ((S.1.1, (fun b l => if b = a ∧ l = k then w else S.1.2 b l)), S.2)
    congr 2; funext b l; by_cases h : b = a ∧ l = k
    · rw [if_pos h, if_pos h]
    · rw [if_neg h, if_neg h, if_neg h]
theorem mm_gI_ne {S : mm_S} {a k b l : Nat} {v : Int} (h : ¬ (b = a ∧ l = k)) : (S.sI a k v).I b l = S.I b l := if_neg h
theorem mm_gJ_ne {S : mm_S} {a k b l : Nat} {v : Int} (h : ¬ (b = a ∧ l = k)) : (S.sJ a k v).J b l = S.J b l := if_neg h
theorem mm_gA_ne {S : mm_S} {a b : Nat} {f : Int → Int} (h : b ≠ a) : (S.sA a f).A b = S.A b := if_neg h
theorem mm_gL_ne {S : mm_S} {a b : Nat} {f : Int → Int} (h : b ≠ a) : (S.sL a f).L b = S.L b := if_neg h
/-! the shape: an object: its class, its fields (0 an int, 1 a long, k + 2 a reference to cell k); a row of ints, of longs, of references -/
abbrev mm_Sh : Type := (Nat × List Nat) ⊕ (Nat ⊕ (Nat ⊕ List Nat))
def mm_shl : List mm_Sh := [.inl (8, [3, 5, 16, 27, 38, 42, 95, 98, 99, 102, 0, 0, 0, 0]), .inl (7, [4, 0, 0, 0, 0, 0]), .inr (.inl 400), .inl (3, [6, 7, 8, 9, 10, 11, 12, 13, 14, 15, 0, 0, 0]), .inr (.inl 84), .inr (.inl 72), .inr (.inl 12), .inr (.inl 12), .inr (.inl 12), .inr (.inl 480), .inr (.inl 12), .inr (.inl 12), .inr (.inl 12), .inr (.inl 12), .inl (3, [17, 18, 19, 20, 21, 22, 23, 24, 25, 26, 0, 0, 0]), .inr (.inl 84), .inr (.inl 72), .inr (.inl 12), .inr (.inl 12), .inr (.inl 12), .inr (.inl 480), .inr (.inl 12), .inr (.inl 12), .inr (.inl 12), .inr (.inl 12), .inl (3, [28, 29, 30, 31, 32, 33, 34, 35, 36, 37, 0, 0, 0]), .inr (.inl 84), .inr (.inl 72), .inr (.inl 12), .inr (.inl 12), .inr (.inl 12), .inr (.inl 480), .inr (.inl 12), .inr (.inl 12), .inr (.inl 12), .inr (.inl 12), .inl (0, [39, 40, 41, 0, 0]), .inr (.inl 20), .inr (.inl 20), .inr (.inl 20), .inl (1, [43, 44, 47, 50, 53, 56, 57, 58, 1, 1]), .inr (.inr (.inr [57, 60, 63, 66, 69, 72, 75, 78, 81, 84, 87, 90])), .inl (5, [45, 46]), .inr (.inr (.inl 120)), .inr (.inr (.inl 120)), .inl (5, [48, 49]), .inr (.inr (.inl 120)), .inr (.inr (.inl 120)), .inl (5, [51, 52]), .inr (.inr (.inl 120)), .inr (.inr (.inl 120)), .inl (5, [54, 55]), .inr (.inr (.inl 1)), .inr (.inr (.inl 1)), .inr (.inr (.inl 120)), .inr (.inl 12), .inr (.inl 12), .inl (5, [60, 61]), .inr (.inr (.inl 120)), .inr (.inr (.inl 120)), .inl (5, [63, 64]), .inr (.inr (.inl 120)), .inr (.inr (.inl 120)), .inl (5, [66, 67]), .inr (.inr (.inl 120)), .inr (.inr (.inl 120)), .inl (5, [69, 70]), .inr (.inr (.inl 120)), .inr (.inr (.inl 120)), .inl (5, [72, 73]), .inr (.inr (.inl 120)), .inr (.inr (.inl 120)), .inl (5, [75, 76]), .inr (.inr (.inl 120)), .inr (.inr (.inl 120)), .inl (5, [78, 79]), .inr (.inr (.inl 120)), .inr (.inr (.inl 120)), .inl (5, [81, 82]), .inr (.inr (.inl 120)), .inr (.inr (.inl 120)), .inl (5, [84, 85]), .inr (.inr (.inl 120)), .inr (.inr (.inl 120)), .inl (5, [87, 88]), .inr (.inr (.inl 120)), .inr (.inr (.inl 120)), .inl (5, [90, 91]), .inr (.inr (.inl 120)), .inr (.inr (.inl 120)), .inl (5, [93, 94]), .inr (.inr (.inl 120)), .inr (.inr (.inl 120)), .inl (2, [96, 97, 0, 0, 0]), .inr (.inl 41), .inr (.inl 41), .inl (6, [3, 16, 0]), .inl (4, [3, 5, 100, 101, 0, 0, 0]), .inr (.inl 200), .inr (.inl 64), .inr (.inl 21), .inl (9, [0, 104, 105, 106, 0, 107, 108, 109, 110, 111, 112, 113, 114, 115, 116, 0, 117, 118, 0, 119, 120, 121, 122, 123, 0, 124, 0, 0, 0, 0, 0, 0, 0, 0, 0, 0, 0, 0, 0]), .inr (.inl 190), .inr (.inl 190), .inr (.inl 3800), .inr (.inl 12), .inr (.inl 480), .inr (.inl 12), .inr (.inl 1440), .inr (.inl 1440), .inr (.inl 120), .inr (.inl 120), .inr (.inl 120), .inr (.inl 120), .inr (.inl 2880), .inr (.inl 12), .inr (.inl 12), .inr (.inl 40), .inr (.inl 41), .inr (.inl 190), .inr (.inl 12), .inr (.inl 480), .inr (.inl 400), .inr (.inr (.inl 1))]
def mm_sh (a : Nat) : Option mm_Sh := mm_shl[a]?
def mm_fv (B : Nat) (S : mm_S) (a k : Nat) : Nat → Value
  | 0 => .int (mm_i (S.I a k))
  | 1 => .long (mm_j (S.J a k))
  | o + 2 => .ref (mm_ad B o)
def mm_fs (B : Nat) (S : mm_S) (a : Nat) : Nat → List Nat → List Value
  | _, [] => []
  | k, t :: r => mm_fv B S a k t :: mm_fs B S a (k + 1) r
theorem mm_fs_get (B : Nat) (S : mm_S) (a : Nat) : ∀ (ks : List Nat) (k0 k : Nat), (mm_fs B S a k0 ks)[k]? = (ks[k]?).map (mm_fv B S a (k0 + k))
  | [], _, _ => by simp [mm_fs]
  | t :: r, k0, 0 => by simp [mm_fs]
  | t :: r, k0, k + 1 => by
    have e : k0 + 1 + k = k0 + (k + 1) := by omega
    rw [mm_fs, List.getElem?_cons_succ, List.getElem?_cons_succ, mm_fs_get B S a r (k0 + 1) k, e]
theorem mm_fs_len (B : Nat) (S : mm_S) (a : Nat) : ∀ (ks : List Nat) (k0 : Nat), (mm_fs B S a k0 ks).length = ks.length
  | [], _ => rfl
  | _ :: r, k0 => by rw [mm_fs, List.length_cons, List.length_cons, mm_fs_len B S a r (k0 + 1)]
def pp_cell (B : Nat) (S : mm_S) (a : Nat) : Option mm_C := match mm_sh a with
  | some (.inl (ci, ks)) => some (.inl (ci, mm_fs B S a 0 ks))
  | some (.inr (.inl n)) => some (.inr (.inl (n, fun i => mm_i (S.A a i))))
  | some (.inr (.inr (.inl n))) => some (.inr (.inr (.inl (n, fun i => mm_j (S.L a i)))))
  | some (.inr (.inr (.inr l))) => some (.inr (.inr (.inr (l.length, fun i => (l[i]?).map (mm_ad B)))))
  | none => none
abbrev mm_N : Type := Option Nat × (Nat × Nat)
def mm_hp (B : Nat) (S : mm_S) (c : mm_N) : mm_H := (fun x => if x < B then none else pp_cell B S (x - B), c)
theorem mm_hp_at (B : Nat) (S : mm_S) (c : mm_N) (a : Nat) : (mm_hp B S c).1 (mm_ad B a) = pp_cell B S a := by
  show (if B + a < B then none else pp_cell B S (B + a - B)) = _
  rw [if_neg (by omega), Nat.add_sub_cancel_left]
theorem mm_hp_lo {B : Nat} (S : mm_S) (c : mm_N) {x : Nat} (h : x < B) : (mm_hp B S c).1 x = none := if_pos h
theorem mm_hp_c (B : Nat) (S : mm_S) (c : mm_N) : (mm_hp B S c).2 = c := rfl
/-- another state, that differs in one cell -/
theorem mm_hp_up {B : Nat} {S T : mm_S} {c : mm_N} {a : Nat} {ce : mm_C} (h1 : pp_cell B T a = some ce) (h2 : ∀ b, b ≠ a → pp_cell B T b = pp_cell B S b) : mm_up (mm_hp B S c) (mm_ad B a) ce = mm_hp B T c := by
  unfold mm_up mm_hp
  refine Prod.ext ?_ rfl
  funext x
  show va_up _ (B + a) (some ce) x = _
  unfold va_up
  by_cases hx : x = B + a
  · subst hx
    rw [if_pos rfl]
    show _ = if B + a < B then none else pp_cell B T (B + a - B)
    rw [if_neg (by omega), Nat.add_sub_cancel_left, h1]
  · rw [if_neg hx]
    show (if x < B then none else pp_cell B S (x - B)) = if x < B then none else pp_cell B T (x - B)
    by_cases hb : x < B
    · rw [if_pos hb, if_pos hb]
    · rw [if_neg hb, if_neg hb, h2 (x - B) (by omega)]
-- ints
theorem mm_i_in {v : Int} (h1 : -2147483648 ≤ v) (h2 : v < 2147483648) : (mm_i v).toInt = v := Int32.toInt_ofInt_of_le h1 h2
theorem mm_j_in {v : Int} (h1 : -9223372036854775808 ≤ v) (h2 : v < 9223372036854775808) : (mm_j v).toInt = v := Int64.toInt_ofInt_of_le h1 h2
theorem mm_i_of (x : Int32) : mm_i x.toInt = x := Int32.ofInt_toInt x
theorem mm_j_of (x : Int64) : mm_j x.toInt = x := Int64.ofInt_toInt x
theorem mm_i_nat {v : Int} (h1 : 0 ≤ v) (h2 : v < 2147483648) : (mm_i v).toNatClampNeg = v.toNat := by
  rw [Int32.toNatClampNeg, mm_i_in (by omega) h2]
theorem mm_i_lt0 {v : Int} (h1 : 0 ≤ v) (h2 : v < 2147483648) : ¬ (mm_i v < 0) := by
  rw [Int32.lt_iff_toInt_lt, mm_i_in (by omega) h2]
  show ¬ (v < 0)
  omega
theorem mm_ix {v : Int} {n : Nat} (h1 : 0 ≤ v) (h2 : v < n) (h3 : n ≤ 2147483647) : ¬ (mm_i v < 0 ∨ n ≤ (mm_i v).toNatClampNeg) := by
  rw [mm_i_nat h1 (by omega)]
  rintro (h | h)
  · exact mm_i_lt0 h1 (by omega) h
  · omega
-- points
theorem mm_pgI {B : Nat} {S : mm_S} {c : mm_N} {a ci k : Nat} {ks : List Nat} (h1 : mm_sh a = some (.inl (ci, ks))) (h2 : ks[k]? = some 0) (κ : Int32 → mm_R) : mm_gI (mm_hp B S c) (mm_ad B a) ci k κ = κ (mm_i (S.I a k)) := by
  have e : pp_cell B S a = some (.inl (ci, mm_fs B S a 0 ks)) := by unfold pp_cell; rw [h1]
  unfold mm_gI
  rw [mm_hp_at, e]
  show (match (mm_fs B S a 0 ks)[k]? with
    | some (.int v) => bif Nat.beq ci ci then κ v else none
    | _ => none) = _
  rw [mm_fs_get, h2]
  show (bif Nat.beq ci ci then κ (mm_i (S.I a (0 + k))) else none) = _
  rw [Nat.beq_refl, Nat.zero_add]; rfl
theorem mm_pgJ {B : Nat} {S : mm_S} {c : mm_N} {a ci k : Nat} {ks : List Nat} (h1 : mm_sh a = some (.inl (ci, ks))) (h2 : ks[k]? = some 1) (κ : Int64 → mm_R) : mm_gJ (mm_hp B S c) (mm_ad B a) ci k κ = κ (mm_j (S.J a k)) := by
  have e : pp_cell B S a = some (.inl (ci, mm_fs B S a 0 ks)) := by unfold pp_cell; rw [h1]
  unfold mm_gJ
  rw [mm_hp_at, e]
  show (match (mm_fs B S a 0 ks)[k]? with
    | some (.long v) => bif Nat.beq ci ci then κ v else none
    | _ => none) = _
  rw [mm_fs_get, h2]
  show (bif Nat.beq ci ci then κ (mm_j (S.J a (0 + k))) else none) = _
  rw [Nat.beq_refl, Nat.zero_add]; rfl
theorem mm_pgR {B : Nat} {S : mm_S} {c : mm_N} {a ci k o : Nat} {ks : List Nat} (h1 : mm_sh a = some (.inl (ci, ks))) (h2 : ks[k]? = some (o + 2)) (κ : Nat → mm_R) : mm_gR (mm_hp B S c) (mm_ad B a) ci k κ = κ (mm_ad B o) := by
  have e : pp_cell B S a = some (.inl (ci, mm_fs B S a 0 ks)) := by unfold pp_cell; rw [h1]
  unfold mm_gR
  rw [mm_hp_at, e]
  show (match (mm_fs B S a 0 ks)[k]? with
    | some (.ref v) => bif Nat.beq ci ci then κ v else none
    | _ => none) = _
  rw [mm_fs_get, h2]
  show (bif Nat.beq ci ci then κ (mm_ad B o) else none) = _
  rw [Nat.beq_refl]; rfl
theorem pp_cell_ne {B : Nat} {S T : mm_S} {b : Nat} (hI : ∀ k, T.I b k = S.I b k) (hJ : ∀ k, T.J b k = S.J b k) (hA : T.A b = S.A b) (hL : T.L b = S.L b) : pp_cell B T b = pp_cell B S b := by
  have hv : ∀ k t, mm_fv B T b k t = mm_fv B S b k t := by
    intro k t
    match t with
    | 0 => show Value.int (mm_i (T.I b k)) = _; rw [hI]; rfl
    | 1 => show Value.long (mm_j (T.J b k)) = _; rw [hJ]; rfl
    | t + 2 => rfl
  have hf : ∀ (ks : List Nat) (k0 : Nat), mm_fs B T b k0 ks = mm_fs B S b k0 ks := by
    intro ks
    induction ks with
    | nil => intro _; rfl
    | cons t r ih => intro k0; rw [mm_fs, mm_fs, hv, ih]
  unfold pp_cell
  rw [hA, hL]
  cases mm_sh b with
  | none => rfl
  | some q =>
    cases q with
    | inl p => show some (Sum.inl (p.1, mm_fs B T b 0 p.2)) = some (Sum.inl (p.1, mm_fs B S b 0 p.2)); rw [hf]
    | inr q => cases q with
      | inl n => rfl
      | inr q => cases q with
        | inl n => rfl
        | inr l => rfl
theorem mm_fs_set {B : Nat} {S T : mm_S} {a : Nat} {v : Value} : ∀ (ks : List Nat) (k0 k t : Nat), ks[k]? = some t → mm_fv B T a (k0 + k) t = v → (∀ l t, l ≠ k0 + k → mm_fv B T a l t = mm_fv B S a l t) → mm_fs B T a k0 ks = (mm_fs B S a k0 ks).set k v
  | [], _, _, _, h, _, _ => by simp at h
  | u :: r, k0, 0, t, h, hv, hne => by
    have h : u = t := by simpa using h
    subst h
    have hr : ∀ (r : List Nat) (k1 : Nat), k0 < k1 → mm_fs B T a k1 r = mm_fs B S a k1 r := by
      intro r
      induction r with
      | nil => intros; rfl
      | cons w r ih => intro k1 hk; rw [mm_fs, mm_fs, hne k1 w (by omega), ih (k1 + 1) (by omega)]
    rw [mm_fs, mm_fs, List.set_cons_zero, hr r (k0 + 1) (by omega)]
    rw [Nat.add_zero] at hv
    rw [hv]
  | u :: r, k0, k + 1, t, h, hv, hne => by
    have h : r[k]? = some t := by simpa using h
    have e : k0 + (k + 1) = k0 + 1 + k := by omega
    rw [e] at hv
    rw [mm_fs, mm_fs, List.set_cons_succ, mm_fs_set r (k0 + 1) k t h hv (fun l t hl => hne l t (by omega)), hne k0 u (by omega)]
theorem mm_ppI {B : Nat} {S : mm_S} {c : mm_N} {a ci k : Nat} {ks : List Nat} {v : Int} (h1 : mm_sh a = some (.inl (ci, ks))) (h2 : ks[k]? = some 0) (κ : mm_H → mm_R) : mm_pF (mm_hp B S c) (mm_ad B a) ci k (.int (mm_i v)) κ = κ (mm_hp B (S.sI a k v) c) := by
  have e : ∀ S, pp_cell B S a = some (.inl (ci, mm_fs B S a 0 ks)) := by intro S; unfold pp_cell; rw [h1]
  have hk : k < ks.length := (List.getElem?_eq_some_iff.mp h2).1
  unfold mm_pF
  rw [mm_hp_at, e]
  show (bif Nat.beq ci ci && Nat.ble (k + 1) (mm_fs B S a 0 ks).length then κ (mm_up (mm_hp B S c) (mm_ad B a) (.inl (ci, (mm_fs B S a 0 ks).set k (.int (mm_i v))))) else none) = _
  rw [Nat.beq_refl, mm_fs_len, show Nat.ble (k + 1) ks.length = true from Nat.ble_eq_true_of_le hk]
  show κ _ = _
  congr 1
  apply mm_hp_up
  · rw [e]
    congr 3
    apply mm_fs_set (t := 0)
    · exact h2
    · show Value.int (mm_i ((S.sI a k v).I a (0 + k))) = _
      rw [Nat.zero_add, mm_gs.1]
    · intro l t hl
      match t with
      | 0 => show Value.int (mm_i ((S.sI a k v).I a l)) = Value.int (mm_i (S.I a l)); rw [mm_gI_ne (by omega)]
      | 1 => rfl
      | t + 2 => rfl
  · intro b hb
    exact pp_cell_ne (fun l => mm_gI_ne (by omega)) (fun l => rfl) rfl rfl
theorem mm_ppJ {B : Nat} {S : mm_S} {c : mm_N} {a ci k : Nat} {ks : List Nat} {v : Int} (h1 : mm_sh a = some (.inl (ci, ks))) (h2 : ks[k]? = some 1) (κ : mm_H → mm_R) : mm_pF (mm_hp B S c) (mm_ad B a) ci k (.long (mm_j v)) κ = κ (mm_hp B (S.sJ a k v) c) := by
  have e : ∀ S, pp_cell B S a = some (.inl (ci, mm_fs B S a 0 ks)) := by intro S; unfold pp_cell; rw [h1]
  have hk : k < ks.length := (List.getElem?_eq_some_iff.mp h2).1
  unfold mm_pF
  rw [mm_hp_at, e]
  show (bif Nat.beq ci ci && Nat.ble (k + 1) (mm_fs B S a 0 ks).length then κ (mm_up (mm_hp B S c) (mm_ad B a) (.inl (ci, (mm_fs B S a 0 ks).set k (.long (mm_j v))))) else none) = _
  rw [Nat.beq_refl, mm_fs_len, show Nat.ble (k + 1) ks.length = true from Nat.ble_eq_true_of_le hk]
  show κ _ = _
  congr 1
  apply mm_hp_up
  · rw [e]
    congr 3
    apply mm_fs_set (t := 1)
    · exact h2
    · show Value.long (mm_j ((S.sJ a k v).J a (0 + k))) = _
      rw [Nat.zero_add, mm_gs.2.2.2.2.1]
    · intro l t hl
      match t with
      | 0 => rfl
      | 1 => show Value.long (mm_j ((S.sJ a k v).J a l)) = Value.long (mm_j (S.J a l)); rw [mm_gJ_ne (by omega)]
      | t + 2 => rfl
  · intro b hb
    exact pp_cell_ne (fun l => rfl) (fun l => mm_gJ_ne (by omega)) rfl rfl
theorem mm_prI {E : mm_E} {B : Nat} {S : mm_S} {c : mm_N} {a n : Nat} {i : Int} (h1 : mm_sh a = some (.inr (.inl n))) (hn : n ≤ 2147483647) (h2 : 0 ≤ i) (h3 : i < n) (κ : Int32 → mm_R) : mm_rI E (mm_hp B S c) (mm_ad B a) (mm_i i) κ = κ (mm_i (S.A a i)) := by
  have e : pp_cell B S a = some (.inr (.inl (n, fun i => mm_i (S.A a i)))) := by unfold pp_cell; rw [h1]
  unfold mm_rI
  rw [mm_hp_at, e]
  show (if mm_i i < 0 ∨ n ≤ (mm_i i).toNatClampNeg then none else κ (mm_i (S.A a ((mm_i i).toNatClampNeg : Nat)))) = _
  rw [if_neg (mm_ix h2 h3 hn), mm_i_nat h2 (by omega), Int.toNat_of_nonneg h2]
theorem mm_pwI {B : Nat} {S : mm_S} {c : mm_N} {a n : Nat} {i v : Int} (h1 : mm_sh a = some (.inr (.inl n))) (hn : n ≤ 2147483647) (h2 : 0 ≤ i) (h3 : i < n) (κ : mm_H → mm_R) : mm_wI (mm_hp B S c) (mm_ad B a) (mm_i i) (mm_i v) κ = κ (mm_hp B (S.sA a (mm_u (S.A a) i v)) c) := by
  have e : ∀ S, pp_cell B S a = some (.inr (.inl (n, fun i => mm_i (S.A a i)))) := by intro S; unfold pp_cell; rw [h1]
  unfold mm_wI
  rw [mm_hp_at, e]
  show (if mm_i i < 0 ∨ n ≤ (mm_i i).toNatClampNeg then none else κ (mm_up (mm_hp B S c) (mm_ad B a) (.inr (.inl (n, upd (fun i : Nat => mm_i (S.A a i)) (mm_i i).toNatClampNeg (mm_i v)))))) = _
  rw [if_neg (mm_ix h2 h3 hn), mm_i_nat h2 (by omega)]
  congr 1
  apply mm_hp_up
  · rw [e, mm_gs.2.2.2.2.2.2.2.2.1]
    congr 4
    funext j
    unfold mm_u upd
    by_cases hj : j = i.toNat
    · rw [if_pos hj, if_pos (by omega)]
    · rw [if_neg hj, if_neg (by omega)]
  · intro b hb
    exact pp_cell_ne (fun l => rfl) (fun l => rfl) (mm_gA_ne hb) rfl
theorem mm_plI {E : mm_E} {B : Nat} {S : mm_S} {c : mm_N} {a n : Nat} (h1 : mm_sh a = some (.inr (.inl n))) (κ : Int32 → mm_R) : mm_ln E (mm_hp B S c) (mm_ad B a) κ = κ (mm_i n) := by
  have e : pp_cell B S a = some (.inr (.inl (n, fun i => mm_i (S.A a i)))) := by unfold pp_cell; rw [h1]
  unfold mm_ln
  rw [mm_hp_at, e]
  rfl
theorem mm_prJ {B : Nat} {S : mm_S} {c : mm_N} {a n : Nat} {i : Int} (h1 : mm_sh a = some (.inr (.inr (.inl n)))) (hn : n ≤ 2147483647) (h2 : 0 ≤ i) (h3 : i < n) (κ : Int64 → mm_R) : mm_rJ (mm_hp B S c) (mm_ad B a) (mm_i i) κ = κ (mm_j (S.L a i)) := by
  have e : pp_cell B S a = some (.inr (.inr (.inl (n, fun i => mm_j (S.L a i))))) := by unfold pp_cell; rw [h1]
  unfold mm_rJ
  rw [mm_hp_at, e]
  show (if mm_i i < 0 ∨ n ≤ (mm_i i).toNatClampNeg then none else κ (mm_j (S.L a ((mm_i i).toNatClampNeg : Nat)))) = _
  rw [if_neg (mm_ix h2 h3 hn), mm_i_nat h2 (by omega), Int.toNat_of_nonneg h2]
theorem mm_pwJ {B : Nat} {S : mm_S} {c : mm_N} {a n : Nat} {i v : Int} (h1 : mm_sh a = some (.inr (.inr (.inl n)))) (hn : n ≤ 2147483647) (h2 : 0 ≤ i) (h3 : i < n) (κ : mm_H → mm_R) : mm_wJ (mm_hp B S c) (mm_ad B a) (mm_i i) (mm_j v) κ = κ (mm_hp B (S.sL a (mm_u (S.L a) i v)) c) := by
  have e : ∀ S, pp_cell B S a = some (.inr (.inr (.inl (n, fun i => mm_j (S.L a i))))) := by intro S; unfold pp_cell; rw [h1]
  unfold mm_wJ
  rw [mm_hp_at, e]
  show (if mm_i i < 0 ∨ n ≤ (mm_i i).toNatClampNeg then none else κ (mm_up (mm_hp B S c) (mm_ad B a) (.inr (.inr (.inl (n, vp_updL (fun i : Nat => mm_j (S.L a i)) (mm_i i).toNatClampNeg (mm_j v))))))) = _
  rw [if_neg (mm_ix h2 h3 hn), mm_i_nat h2 (by omega)]
  congr 1
  apply mm_hp_up
  · rw [e, mm_gs.2.2.2.2.2.2.2.2.2.2.2.2.1]
    congr 5
    funext j
    unfold mm_u vp_updL
    by_cases hj : j = i.toNat
    · rw [if_pos hj, if_pos (by omega)]
    · rw [if_neg hj, if_neg (by omega)]
  · intro b hb
    exact pp_cell_ne (fun l => rfl) (fun l => rfl) rfl (mm_gL_ne hb)
theorem mm_prR {B : Nat} {S : mm_S} {c : mm_N} {a o : Nat} {l : List Nat} {i : Int} (h1 : mm_sh a = some (.inr (.inr (.inr l)))) (hn : l.length ≤ 2147483647) (h2 : 0 ≤ i) (h3 : l[i.toNat]? = some o) (κ : Nat → mm_R) : mm_rR (mm_hp B S c) (mm_ad B a) (mm_i i) κ = κ (mm_ad B o) := by
  have e : pp_cell B S a = some (.inr (.inr (.inr (l.length, fun i => (l[i]?).map (mm_ad B))))) := by unfold pp_cell; rw [h1]
  have hl : i.toNat < l.length := (List.getElem?_eq_some_iff.mp h3).1
  unfold mm_rR
  rw [mm_hp_at, e]
  show (if mm_i i < 0 ∨ l.length ≤ (mm_i i).toNatClampNeg then none else (match (l[(mm_i i).toNatClampNeg]?).map (mm_ad B) with
    | some q => κ q
    | none => none)) = _
  rw [if_neg (mm_ix h2 (by omega) hn), mm_i_nat h2 (by omega), h3]
  rfl
theorem mm_pcp {B : Nat} {S : mm_S} {c : mm_N} {a d n : Nat} (h1 : mm_sh a = some (.inr (.inl n))) (h2 : mm_sh d = some (.inr (.inl n))) (hn : n ≤ 2147483647) (κ : mm_H → mm_R) : mm_cp (mm_hp B S c) (mm_ad B a) (mm_i 0) (mm_ad B d) (mm_i 0) (mm_i n) κ = κ (mm_hp B (S.sA d (fun j => if 0 ≤ j ∧ j < n then S.A a j else S.A d j)) c) := by
  have e : ∀ S, pp_cell B S a = some (.inr (.inl (n, fun i => mm_i (S.A a i)))) := by intro S; unfold pp_cell; rw [h1]
  have e2 : ∀ S, pp_cell B S d = some (.inr (.inl (n, fun i => mm_i (S.A d i)))) := by intro S; unfold pp_cell; rw [h2]
  unfold mm_cp
  rw [mm_hp_at, mm_hp_at, e, e2]
  have z : (mm_i 0).toNatClampNeg = 0 := rfl
  have zn : (mm_i n).toNatClampNeg = n := by rw [mm_i_nat (by omega) (by omega)]; rfl
  have z1 : ¬ (mm_i 0 < 0) := mm_i_lt0 (by omega) (by omega)
  have z2 : ¬ (mm_i n < 0) := mm_i_lt0 (by omega) (by omega)
  show (if mm_i 0 < 0 ∨ mm_i 0 < 0 ∨ mm_i n < 0 ∨ n < (mm_i 0).toNatClampNeg + (mm_i n).toNatClampNeg ∨ n < (mm_i 0).toNatClampNeg + (mm_i n).toNatClampNeg then none
        else κ (mm_up (mm_hp B S c) (mm_ad B d) (.inr (.inl (n, va_cpy (fun i : Nat => mm_i (S.A a i)) (fun i : Nat => mm_i (S.A d i)) (mm_i 0).toNatClampNeg (mm_i 0).toNatClampNeg (mm_i n).toNatClampNeg))))) = _
  rw [z, zn, if_neg (by rintro (h | h | h | h | h) <;> first | exact z1 h | exact z2 h | omega)]
  congr 1
  apply mm_hp_up
  · rw [e2, mm_gs.2.2.2.2.2.2.2.2.1]
    congr 4
    funext j
    unfold va_cpy
    by_cases hj : j < n
    · rw [if_pos (by omega), if_pos (by omega), show 0 + (j - 0) = j by omega]
    · rw [if_neg (by omega), if_neg (by omega)]
  · intro b hb
    exact pp_cell_ne (fun l => rfl) (fun l => rfl) (mm_gA_ne hb) rfl
