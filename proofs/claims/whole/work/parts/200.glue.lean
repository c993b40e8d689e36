/-! CLASS AND MODEL, cell by cell -/
theorem gl_fs {B : Nat} {S T : mm_S} {a : Nat} (hI : ∀ k, S.I a k = T.I a k) (hJ : ∀ k, S.J a k = T.J a k) : ∀ (ks : List Nat) (k0 : Nat), mm_fs B S a k0 ks = mm_fs B T a k0 ks
  | [], _ => rfl
  | t :: r, k0 => by
    have e : mm_fv B S a k0 t = mm_fv B T a k0 t := by
      match t with
      | 0 => show Value.int (mm_i (S.I a k0)) = Value.int (mm_i (T.I a k0)); rw [hI]
      | 1 => show Value.long (mm_j (S.J a k0)) = Value.long (mm_j (T.J a k0)); rw [hJ]
      | o + 2 => rfl
    rw [mm_fs, mm_fs, gl_fs hI hJ r (k0 + 1), e]
theorem gl_cl {B : Nat} {S T : mm_S} {a : Nat} (hI : ∀ k, S.I a k = T.I a k) (hJ : ∀ k, S.J a k = T.J a k) (hA : S.A a = T.A a) (hL : S.L a = T.L a) : pp_cell B S a = pp_cell B T a := by
  unfold pp_cell
  cases mm_sh a with
  | none => rfl
  | some s =>
    match s with
    | .inl (ci, ks) => show some _ = some _; rw [gl_fs hI hJ]
    | .inr (.inl n) => show some _ = some _; rw [hA]
    | .inr (.inr (.inl n)) => show some _ = some _; rw [hL]
    | .inr (.inr (.inr l)) => rfl
theorem gl_at {B : Nat} {S T : mm_S} {c : mm_N} (h : mm_hp B S c = mm_hp B T c) (a : Nat) : pp_cell B S a = pp_cell B T a := by
  rw [← mm_hp_at B S c a, h, mm_hp_at]
theorem gl_of {B : Nat} {S T : mm_S} {c : mm_N} (h : ∀ a, pp_cell B S a = pp_cell B T a) : mm_hp B S c = mm_hp B T c := by
  unfold mm_hp
  refine Prod.ext ?_ rfl
  funext x
  show (if x < B then none else pp_cell B S (x - B)) = if x < B then none else pp_cell B T (x - B)
  rw [h]
/-- the class's cells of one state, the model's of another -/
def gl_g (S U : mm_S) : mm_S := (((fun a k => if a < 101 then S.I a k else U.I a k), (fun a k => if a < 101 then S.J a k else U.J a k)), ((fun a => if a < 101 then S.A a else U.A a), (fun a => if a < 101 then S.L a else U.L a)))
theorem gl_I {S U : mm_S} (a k : Nat) : (gl_g S U).I a k = if a < 101 then S.I a k else U.I a k := rfl
theorem gl_A {S U : mm_S} (a : Nat) : (gl_g S U).A a = if a < 101 then S.A a else U.A a := rfl
theorem gl_lo {B : Nat} {S U : mm_S} {a : Nat} (h : a < 101) : pp_cell B (gl_g S U) a = pp_cell B S a := gl_cl (fun _ => if_pos h) (fun _ => if_pos h) (if_pos h) (if_pos h)
theorem gl_hi {B : Nat} {S U : mm_S} {a : Nat} (h : ¬ a < 101) : pp_cell B (gl_g S U) a = pp_cell B U a := gl_cl (fun _ => if_neg h) (fun _ => if_neg h) (if_neg h) (if_neg h)
/-- the model's cells are the same; the class's -/
def gl_M (S T : mm_S) : Prop := ∀ a, 101 ≤ a → a ≠ 123 → (∀ k, T.I a k = S.I a k) ∧ T.A a = S.A a
def gl_C (S T : mm_S) : Prop := ∀ a, a < 101 → (∀ k, T.I a k = S.I a k) ∧ (∀ k, T.J a k = S.J a k) ∧ T.A a = S.A a ∧ T.L a = S.L a
theorem gl_M_r (S : mm_S) : gl_M S S := fun _ _ _ => ⟨fun _ => rfl, rfl⟩
section
variable {E : mm_E} {d B : Nat} {S : mm_S} {k : Nat}
theorem iv_rel {J K : Nat} {as bs : List Value} {cd : Nat → Int} (h : ∀ (c : mm_N) (T : mm_S), gl_M S T → ∃ S1 U : mm_S, ∃ v : Int, mm_ev E d J as (mm_hp B S c) = mm_oI v (mm_hp B S1 c) ∧ mm_ev E d K bs (mm_hp B T c) = mm_oI v (mm_hp B U c) ∧ gl_M S S1 ∧ gl_C T U ∧ U.I 101 0 = 0 ∧ U.L 123 = T.L 123 ∧ iv (gl_g S1 U) (k + 1)) : iv_ok E B d S k J as K bs cd := by
  intro c
  obtain ⟨S1, U0, v, h1, -, h3, -⟩ := h c S (gl_M_r S)
  refine ⟨S1, Or.inl ⟨v, h1, fun o => ?_⟩⟩
  obtain ⟨S2, U, w, g1, g2, g3, g4, g5, g6, g7⟩ := h c (S1.sL 123 o) h3
  rw [h1] at g1
  have e2 : mm_hp B S1 c = mm_hp B S2 c := (Prod.mk.inj (Option.some.inj g1)).2
  have e1 : mm_i v = mm_i w := Value.int.inj (Option.some.inj (Sum.inl.inj (Prod.mk.inj (Option.some.inj g1)).1))
  have e3 : mm_hp B U c = mm_hp B (gl_g S2 U) c := gl_of (fun a => by
    by_cases q : a < 101
    · have z := g4 a q
      rw [gl_lo q, ← gl_at e2 a]
      exact gl_cl z.1 z.2.1 z.2.2.1 (by rw [z.2.2.2]; exact mm_gL_ne (by omega))
    · rw [gl_hi q])
  refine ⟨gl_g S2 U, ?_, by rw [gl_I, if_neg (by omega)]; exact g5, ?_, g7⟩
  · rw [g2, ← e3]
    show some (Sum.inl (some (Value.int (mm_i w))), _) = some (Sum.inl (some (Value.int (mm_i v))), _)
    rw [e1]
  · show U.L 123 = o
    rw [g6]
    rfl
/-- a text read: the tape is empty, the fault told, the draft another -/
def iv_Zs (S : mm_S) (p : Int) (f g : Int → Int) : mm_S := (((((S.sI 1 1 0).sI 101 26 0).sI 0 13 p).sI 101 34 p).sA 15 f).sA 24 g
theorem iv_Z (h : iv S k) {p : Int} {f g : Int → Int} (h15 : ∀ s : Int, 0 ≤ s → s < 12 → pp_tR f s) (h24 : ∀ s : Int, 0 ≤ s → s < 12 → 0 ≤ g s ∧ g s ≤ 200) : iv (iv_Zs S p f g) k := by
  have t1 : (iv_Zs S p f g).I 1 1 = 0 := rfl
  have t2 : (iv_Zs S p f g).I 101 26 = 0 := rfl
  refine ⟨⟨by rw [t1, t2], by rw [t1]; omega, by rw [t1]; omega, fun i i0 i1 => by rw [t1] at i1; omega⟩, h.2.1, h.2.2.1, h.2.2.2.1, fun s s0 s1 => ⟨h15 s s0 s1, h24 s s0 s1, (h.2.2.2.2.1 s s0 s1).2.2⟩, h.2.2.2.2.2.1, h.2.2.2.2.2.2.1, h.2.2.2.2.2.2.2.1, rfl, h.2.2.2.2.2.2.2.2.2⟩
theorem iv_ZI {p : Int} {f g : Int → Int} {x l : Nat} (h1 : ¬ (x = 1 ∧ l = 1)) (h2 : ¬ (x = 101 ∧ (l = 26 ∨ l = 34))) (h3 : ¬ (x = 0 ∧ l = 13)) : (iv_Zs S p f g).I x l = S.I x l := by
  show ((((S.sI 1 1 0).sI 101 26 0).sI 0 13 p).sI 101 34 p).I x l = _
  rw [mm_gI_ne (by omega), mm_gI_ne (by omega), mm_gI_ne (by omega), mm_gI_ne (by omega)]
theorem iv_ZA {p : Int} {f g : Int → Int} {x : Nat} (h1 : x ≠ 15) (h2 : x ≠ 24) : (iv_Zs S p f g).A x = S.A x := by
  unfold iv_Zs
  rw [mm_gA_ne h2, mm_gA_ne h1]
  rfl
/-- a row of no stages -/
theorem rd_bare {f : Int → Int} (h0 : f 0 = 0) (h1 : 0 ≤ f 1 ∧ f 1 ≤ 400) (h2 : f 2 = 0) : pp_RO f := by
  have w : ∀ i j, pp_Wr f i j = false := fun i j => by
    cases z : pp_Wr f i j
    · rfl
    · have := pp_Wr_in f i j z
      omega
  refine ⟨by omega, h1, by omega, fun l l0 l1 => by omega, fun s s0 s1 => by omega, (fun i j z => by rw [w] at z; cases z), ?_, ?_, ?_⟩
  · exact ⟨fun _ => 0, (fun i j z => by rw [w] at z; cases z)⟩
  · rw [h2, h0]; rfl
  · refine ⟨fun x => x, fun i i0 i1 => by omega, fun i j i0 i1 => by omega, ?_⟩
    rw [h0, h2]
    rfl
end
