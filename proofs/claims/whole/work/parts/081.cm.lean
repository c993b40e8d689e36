/-! STATES in one form: ints, longs, rows of ints, rows of longs, each by its place -/
theorem pp_ext {S T : mm_S} (h1 : ∀ a k, S.I a k = T.I a k) (h2 : ∀ a k, S.J a k = T.J a k) (h3 : ∀ a, S.A a = T.A a) (h4 : ∀ a, S.L a = T.L a) : S = T := by
  obtain ⟨⟨s1, s2⟩, s3, s4⟩ := S
  obtain ⟨⟨t1, t2⟩, t3, t4⟩ := T
  have e1 : s1 = t1 := funext fun a => funext fun k => h1 a k
  have e2 : s2 = t2 := funext fun a => funext fun k => h2 a k
  have e3 : s3 = t3 := funext fun a => h3 a
  have e4 : s4 = t4 := funext fun a => h4 a
  rw [e1, e2, e3, e4]
theorem pp_cmA {S : mm_S} {a b : Nat} {f g : Int → Int} (h : a < b) : (S.sA b g).sA a f = (S.sA a f).sA b g := by
  apply pp_ext
  · intros; rfl
  · intros; rfl
  · intro x
    show (if x = a then f else if x = b then g else S.2.1 x) = (if x = b then g else if x = a then f else S.2.1 x)
    by_cases h1 : x = a
    · rw [if_pos h1, if_neg (by omega), if_pos h1]
    · rw [if_neg h1, if_neg h1]
  · intros; rfl
theorem pp_cmL {S : mm_S} {a b : Nat} {f g : Int → Int} (h : a < b) : (S.sL b g).sL a f = (S.sL a f).sL b g := by
  apply pp_ext
  · intros; rfl
  · intros; rfl
  · intros; rfl
  · intro x
    show (if x = a then f else if x = b then g else S.2.2 x) = (if x = b then g else if x = a then f else S.2.2 x)
    by_cases h1 : x = a
    · rw [if_pos h1, if_neg (by omega), if_pos h1]
    · rw [if_neg h1, if_neg h1]
theorem pp_cmI {S : mm_S} {a b k l : Nat} {v w : Int} (h : a < b ∨ (a = b ∧ k < l)) : (S.sI b l w).sI a k v = (S.sI a k v).sI b l w := by
  apply pp_ext
  · intro x y
    show (if x = a ∧ y = k then v else if x = b ∧ y = l then w else S.1.1 x y) = (if x = b ∧ y = l then w else if x = a ∧ y = k then v else S.1.1 x y)
    by_cases h1 : x = a ∧ y = k
    · rw [if_pos h1, if_neg (by omega), if_pos h1]
    · rw [if_neg h1, if_neg h1]
  · intros; rfl
  · intros; rfl
  · intros; rfl
theorem pp_cmJ {S : mm_S} {a b k l : Nat} {v w : Int} (h : a < b ∨ (a = b ∧ k < l)) : (S.sJ b l w).sJ a k v = (S.sJ a k v).sJ b l w := by
  apply pp_ext
  · intros; rfl
  · intro x y
    show (if x = a ∧ y = k then v else if x = b ∧ y = l then w else S.1.2 x y) = (if x = b ∧ y = l then w else if x = a ∧ y = k then v else S.1.2 x y)
    by_cases h1 : x = a ∧ y = k
    · rw [if_pos h1, if_neg (by omega), if_pos h1]
    · rw [if_neg h1, if_neg h1]
  · intros; rfl
  · intros; rfl
/-- itself (so that the rules below are no mere change of places) -/
def pp_id (S : mm_S) : mm_S := S
theorem pp_cm : (∀ (S : mm_S) (a b : Nat) (f g : Int → Int), a < b → (S.sA b g).sA a f = pp_id ((S.sA a f).sA b g)) ∧ (∀ (S : mm_S) (a b : Nat) (f g : Int → Int), a < b → (S.sL b g).sL a f = pp_id ((S.sL a f).sL b g))
    ∧ (∀ (S : mm_S) (a b k l : Nat) (v w : Int), a < b ∨ (a = b ∧ k < l) → (S.sI b l w).sI a k v = pp_id ((S.sI a k v).sI b l w)) ∧ (∀ (S : mm_S) (a b k l : Nat) (v w : Int), a < b ∨ (a = b ∧ k < l) → (S.sJ b l w).sJ a k v = pp_id ((S.sJ a k v).sJ b l w))
    ∧ (∀ (S : mm_S) (a b k : Nat) (f : Int → Int) (v : Int), (S.sA b f).sI a k v = (S.sI a k v).sA b f) ∧ (∀ (S : mm_S) (a b k : Nat) (f : Int → Int) (v : Int), (S.sL b f).sI a k v = (S.sI a k v).sL b f) ∧ (∀ (S : mm_S) (a b k l : Nat) (w v : Int), (S.sJ b l w).sI a k v = (S.sI a k v).sJ b l w)
    ∧ (∀ (S : mm_S) (a b k : Nat) (f : Int → Int) (v : Int), (S.sA b f).sJ a k v = (S.sJ a k v).sA b f) ∧ (∀ (S : mm_S) (a b k : Nat) (f : Int → Int) (v : Int), (S.sL b f).sJ a k v = (S.sJ a k v).sL b f) ∧ (∀ (S : mm_S) (a b : Nat) (f g : Int → Int), (S.sL b g).sA a f = (S.sA a f).sL b g) ∧ (∀ S : mm_S, pp_id S = S) := by
  refine ⟨fun S a b f g h => pp_cmA h, fun S a b f g h => pp_cmL h, fun S a b k l v w h => pp_cmI h, fun S a b k l v w h => pp_cmJ h, ?_, ?_, ?_, ?_, ?_, ?_, ?_⟩ <;> (intros; rfl)
/-- read behind writes elsewhere -/
theorem pp_ne : (∀ (S : mm_S) (a k b l : Nat) (v : Int), ¬ (b = a ∧ l = k) → (S.sI a k v).I b l = S.I b l) ∧ (∀ (S : mm_S) (a k b l : Nat) (v : Int), ¬ (b = a ∧ l = k) → (S.sJ a k v).J b l = S.J b l) ∧ (∀ (S : mm_S) (a b : Nat) (f : Int → Int), b ≠ a → (S.sA a f).A b = S.A b) ∧ (∀ (S : mm_S) (a b : Nat) (f : Int → Int), b ≠ a → (S.sL a f).L b = S.L b) :=
  ⟨fun _ _ _ _ _ _ h => mm_gI_ne h, fun _ _ _ _ _ _ h => mm_gJ_ne h, fun _ _ _ _ h => mm_gA_ne h, fun _ _ _ _ h => mm_gL_ne h⟩
theorem pp_ue : (∀ (f : Int → Int) (i v : Int), mm_u f i v i = v) ∧ (∀ (f : Int → Int) (i v j : Int), j ≠ i → mm_u f i v j = f j) ∧ (∀ (f : Int → Int) (i v w : Int), mm_u (mm_u f i v) i w = mm_u f i w) := ⟨mm_u_eq, fun _ _ _ _ h => mm_u_ne h, mm_u_u⟩
