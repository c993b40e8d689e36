/-! SOUNDNESS of the mini machine, first part: words, locals, what a goal is -/
-- the words that every method may use
def mm_tb : List Cond := lw_tbl.filter goodWord
theorem mm_tb_of {w : Cond} (h : w ∈ tables_1) (hg : goodWord w = true) : w ∈ mm_tb := List.mem_filter.mpr ⟨List.mem_append_right _ h, hg⟩
theorem mm_tb_good : GoodIn mm_tb mm_tb := fun _ hw => ⟨hw, good_of_word (List.mem_filter.mp hw).2⟩
-- cells as the kit's worlds have them
def mm_toE (cs : ClassId × ClassId × ClassId) : mm_C → va_E
  | .inl o => .inr o
  | .inr (.inl (n, f)) => .inl (cs.1, n, .inl f)
  | .inr (.inr (.inl (n, f))) => .inl (cs.2.1, n, .inr (.inl f))
  | .inr (.inr (.inr (n, f))) => .inl (cs.2.2, n, .inr (.inr (.inr (.inr f))))
def mm_f (cs : ClassId × ClassId × ClassId) (h : Nat → Option mm_C) : Nat → va_E := fun a => match h a with
  | some c => mm_toE cs c
  | none => .inr (0, [])
theorem mm_f_at {cs : ClassId × ClassId × ClassId} {h : Nat → Option mm_C} {a : Nat} {c : mm_C} (e : h a = some c) : mm_f cs h a = mm_toE cs c := by simp [mm_f, e]
theorem mm_f_up (cs : ClassId × ClassId × ClassId) (h : Nat → Option mm_C) (a : Nat) (c : mm_C) : va_up (mm_f cs h) a (mm_toE cs c) = mm_f cs (va_up h a (some c)) := by
  funext q
  by_cases hq : q = a
  · subst hq; simp [mm_f, va_up]
  · simp [mm_f, va_up, hq]
abbrev mm_ty (cs : ClassId × ClassId × ClassId) : List (ClassId × FieldType) := [(cs.1, .int), (cs.2.1, .long), (cs.2.2, .object "PromisedStock$Row")]
def mm_A (h : Nat → Option mm_C) (sz : Nat) : Nat → Prop := fun q => h q ≠ none ∨ sz ≤ q
/-- the heap holds the cells -/
def mm_Hd (D : va_G) (cs : ClassId × ClassId × ClassId) (A : Nat → Prop) (h : Nat → Option mm_C) (H : Heap) : Prop :=
  ∃ Ls : List Nat, (∀ a, a ∈ Ls ↔ h a ≠ none) ∧ va_P D mm_vc ([] ++ va_pl Ls (mm_f cs h)) H ∧ va_D A ([] ++ va_pl Ls (mm_f cs h))
/-- what stands at a point of a run: h0, the cells at the method's entry -/
def mm_Iv (s : State) (D : va_G) (cs : ClassId × ClassId × ClassId) (A : Nat → Prop) (h0 h : mm_H) (H : Heap) (locs : List Loc) (cells slots : Nat) : Prop :=
  mm_Hd D cs A h.1 H ∧ va_S A s.heap H locs ∧ (∀ n, h.2.1 = some n → H.size = n ∧ n + h0.2.2.1 = s.heap.size + h.2.2.1 ∧ h0.2.1 ≠ none) ∧ h0.2.2.1 + cells = h.2.2.1 ∧ h0.2.2.2 + slots = h.2.2.2
-- locals
def mm_lr (ls : Array Slot) (nL : Nat) (L : mm_L) : Prop := ls.size = nL ∧ lv_wf ls ∧ L.length = nL ∧ ∀ (i : Nat) (v : Value), L[i]? = some (some v) → ls[i]? = some (.val v)
def mm_lp (L : mm_L) : List (Nat × Value) := (List.range L.length).filterMap fun i => match L[i]? with
  | some (some v) => some (i, v)
  | _ => none
theorem mm_lp_mem {L : mm_L} {q : Nat × Value} : q ∈ mm_lp L ↔ L[q.1]? = some (some q.2) := by
  unfold mm_lp
  rw [List.mem_filterMap]
  constructor
  · rintro ⟨i, hi, h⟩
    split at h
    · next v hv => cases h; exact hv
    · cases h
  · intro h
    refine ⟨q.1, List.mem_range.mpr (List.getElem?_eq_some_iff.mp h).1, ?_⟩
    simp [h]
theorem mm_lr_has {ls : Array Slot} {nL : Nat} {L : mm_L} (h : mm_lr ls nL L) : lv_has ls nL (mm_lp L) := ⟨h.1, h.2.1, fun q hq => h.2.2.2 q.1 q.2 (mm_lp_mem.mp hq)⟩
theorem mm_lr_at {ls : Array Slot} {nL : Nat} {L : mm_L} (h : mm_lr ls nL L) {i : Nat} {v : Value} (hi : L[i]? = some (some v)) : ls[i]? = some (.val v) := h.2.2.2 i v hi
/-- the list with a place set, and its lower neighbour emptied -/
theorem mm_st1_len (L : mm_L) (i : Nat) (v : Value) : (mm_st1 L i v).length = L.length := by
  unfold mm_st1
  split
  · simp
  · split <;> simp
theorem mm_st1_at {L : mm_L} {i : Nat} {v : Value} (hi : i < L.length) {j : Nat} {w : Value} (h : (mm_st1 L i v)[j]? = some (some w)) :
    (j = i ∧ w = v) ∨ (j ≠ i ∧ L[j]? = some (some w) ∧ ¬ (j + 1 = i ∧ w.category = 2)) := by
  by_cases hj : j = i
  · subst hj
    left
    refine ⟨rfl, ?_⟩
    unfold mm_st1 at h
    split at h
    · rw [List.getElem?_set_self hi] at h; cases h; rfl
    · split at h
      · rw [List.getElem?_set_self (by simpa using hi)] at h; cases h; rfl
      · rw [List.getElem?_set_self (by simpa using hi)] at h; cases h; rfl
      · rw [List.getElem?_set_self hi] at h; cases h; rfl
  · right
    refine ⟨hj, ?_⟩
    unfold mm_st1 at h
    split at h
    · rw [List.getElem?_set_ne (fun e => hj e.symm)] at h
      exact ⟨h, fun q => by omega⟩
    · next k =>
      split at h
      · next z hz =>
        rw [List.getElem?_set_ne (fun e => hj e.symm)] at h
        by_cases hk : j = k
        · subst hk; rw [List.getElem?_set_self (by omega)] at h; cases h
        · rw [List.getElem?_set_ne (fun e => hk e.symm)] at h
          exact ⟨h, fun q => by omega⟩
      · next z hz =>
        rw [List.getElem?_set_ne (fun e => hj e.symm)] at h
        by_cases hk : j = k
        · subst hk; rw [List.getElem?_set_self (by omega)] at h; cases h
        · rw [List.getElem?_set_ne (fun e => hk e.symm)] at h
          exact ⟨h, fun q => by omega⟩
      · next n1 n2 =>
        rw [List.getElem?_set_ne (fun e => hj e.symm)] at h
        refine ⟨h, fun q => ?_⟩
        have hk : j = k := by omega
        subst hk
        cases w with
        | long z => exact n1 z h
        | double z => exact n2 z h
        | _ => simp [Value.category] at q
theorem mm_lr_st1 {ls' : Array Slot} {nL i : Nat} {L : mm_L} {v : Value} (hl : L.length = nL) (hi : i < nL) (h : lv_has ls' nL ((i, v) :: (mm_lp L).filter (fun q => !(q.1 == i) && !(q.1 + 1 == i && q.2.category == 2)))) : mm_lr ls' nL (mm_st1 L i v) := by
  refine ⟨h.1, h.2.1, by rw [mm_st1_len]; exact hl, fun j w hj => ?_⟩
  rcases mm_st1_at (by omega) hj with ⟨rfl, rfl⟩ | ⟨h1, h2, h3⟩
  · exact h.2.2 (j, w) List.mem_cons_self
  · refine h.2.2 (j, w) (List.mem_cons_of_mem _ (List.mem_filter.mpr ⟨mm_lp_mem.mpr h2, ?_⟩))
    simp only [Bool.and_eq_true, Bool.not_eq_true', beq_eq_false_iff_ne, ne_eq, Bool.and_eq_false_iff]
    refine ⟨h1, ?_⟩
    by_cases e : j + 1 = i
    · exact Or.inr (fun z => h3 ⟨e, z⟩)
    · exact Or.inl e
theorem mm_lr_st2 {ls' : Array Slot} {nL i : Nat} {L : mm_L} {v : Value} (hl : L.length = nL) (hi : i + 1 < nL) (h : lv_has ls' nL ((i, v) :: (mm_lp L).filter (fun q => !(q.1 == i) && (!(q.1 == i + 1) && !(q.1 + 1 == i && q.2.category == 2))))) : mm_lr ls' nL (mm_st2 L i v) := by
  refine ⟨h.1, h.2.1, by unfold mm_st2; rw [List.length_set, mm_st1_len]; exact hl, fun j w hj => ?_⟩
  unfold mm_st2 at hj
  by_cases hj1 : j = i + 1
  · subst hj1
    rw [List.getElem?_set_self (by rw [mm_st1_len]; omega)] at hj
    cases hj
  · rw [List.getElem?_set_ne (fun e => hj1 e.symm)] at hj
    rcases mm_st1_at (by omega) hj with ⟨rfl, rfl⟩ | ⟨h1, h2, h3⟩
    · exact h.2.2 (j, w) List.mem_cons_self
    · refine h.2.2 (j, w) (List.mem_cons_of_mem _ (List.mem_filter.mpr ⟨mm_lp_mem.mpr h2, ?_⟩))
      simp only [Bool.and_eq_true, Bool.not_eq_true', beq_eq_false_iff_ne, ne_eq, Bool.and_eq_false_iff]
      refine ⟨h1, hj1, ?_⟩
      by_cases e : j + 1 = i
      · exact Or.inr (fun z => h3 ⟨e, z⟩)
      · exact Or.inl e
-- reading the combinators
theorem mm_i1_of {st : List Value} {κ : Int32 → List Value → mm_R} {r : mm_O × mm_H} (h : mm_i1 st κ = some r) : ∃ x t, st = .int x :: t ∧ κ x t = some r := by
  unfold mm_i1 at h
  split at h
  · exact ⟨_, _, rfl, h⟩
  · cases h
theorem mm_i2_of {st : List Value} {κ : Int32 → Int32 → List Value → mm_R} {r : mm_O × mm_H} (h : mm_i2 st κ = some r) : ∃ x y t, st = .int y :: .int x :: t ∧ κ x y t = some r := by
  unfold mm_i2 at h
  split at h
  · exact ⟨_, _, _, rfl, h⟩
  · cases h
theorem mm_j2_of {st : List Value} {κ : Int64 → Int64 → List Value → mm_R} {r : mm_O × mm_H} (h : mm_j2 st κ = some r) : ∃ x y t, st = .long y :: .long x :: t ∧ κ x y t = some r := by
  unfold mm_j2 at h
  split at h
  · exact ⟨_, _, _, rfl, h⟩
  · cases h
theorem mm_r1_of {st : List Value} {κ : Nat → List Value → mm_R} {r : mm_O × mm_H} (h : mm_r1 st κ = some r) : ∃ a t, st = .ref a :: t ∧ κ a t = some r := by
  unfold mm_r1 at h
  split at h
  · exact ⟨_, _, rfl, h⟩
  · cases h
theorem mm_l1_of {st : List Value} {κ : Int64 → List Value → mm_R} {r : mm_O × mm_H} (h : mm_l1 st κ = some r) : ∃ a t, st = .long a :: t ∧ κ a t = some r := by
  unfold mm_l1 at h
  split at h
  · exact ⟨_, _, rfl, h⟩
  · cases h
theorem mm_il_of {st : List Value} {κ : Int32 → Int64 → List Value → mm_R} {r : mm_O × mm_H} (h : mm_il st κ = some r) : ∃ b a t, st = .int b :: .long a :: t ∧ κ b a t = some r := by
  unfold mm_il at h
  split at h
  · exact ⟨_, _, _, rfl, h⟩
  · cases h
theorem mm_ir_of {st : List Value} {κ : Int32 → Nat → List Value → mm_R} {r : mm_O × mm_H} (h : mm_ir st κ = some r) : ∃ i a t, st = .int i :: .ref a :: t ∧ κ i a t = some r := by
  unfold mm_ir at h
  split at h
  · exact ⟨_, _, _, rfl, h⟩
  · cases h
theorem mm_iir_of {st : List Value} {κ : Int32 → Int32 → Nat → List Value → mm_R} {r : mm_O × mm_H} (h : mm_iir st κ = some r) : ∃ v i a t, st = .int v :: .int i :: .ref a :: t ∧ κ v i a t = some r := by
  unfold mm_iir at h
  split at h
  · exact ⟨_, _, _, _, rfl, h⟩
  · cases h
theorem mm_lir_of {st : List Value} {κ : Int64 → Int32 → Nat → List Value → mm_R} {r : mm_O × mm_H} (h : mm_lir st κ = some r) : ∃ v i a t, st = .long v :: .int i :: .ref a :: t ∧ κ v i a t = some r := by
  unfold mm_lir at h
  split at h
  · exact ⟨_, _, _, _, rfl, h⟩
  · cases h
theorem mm_rir_of {st : List Value} {κ : Nat → Int32 → Nat → List Value → mm_R} {r : mm_O × mm_H} (h : mm_rir st κ = some r) : ∃ v i a t, st = .ref v :: .int i :: .ref a :: t ∧ κ v i a t = some r := by
  unfold mm_rir at h
  split at h
  · exact ⟨_, _, _, _, rfl, h⟩
  · cases h
theorem mm_vr_of {st : List Value} {κ : Value → Nat → List Value → mm_R} {r : mm_O × mm_H} (h : mm_vr st κ = some r) : ∃ v a t, st = v :: .ref a :: t ∧ κ v a t = some r := by
  unfold mm_vr at h
  split at h
  · exact ⟨_, _, _, rfl, h⟩
  · cases h
theorem mm_cq_of {st : List Value} {κ : Int32 → Int32 → Nat → Int32 → Nat → List Value → mm_R} {r : mm_O × mm_H} (h : mm_cq st κ = some r) : ∃ n dp d sp a t, st = .int n :: .int dp :: .ref d :: .int sp :: .ref a :: t ∧ κ n dp d sp a t = some r := by
  unfold mm_cq at h
  split at h
  · exact ⟨_, _, _, _, _, _, rfl, h⟩
  · cases h
theorem mm_dp_of {st : List Value} {κ : List Value → mm_R} {r : mm_O × mm_H} (h : mm_dp st κ = some r) : ∃ v t, st = v :: t ∧ v.category = 1 ∧ κ (v :: v :: t) = some r := by
  unfold mm_dp at h
  split at h
  · exact ⟨_, _, rfl, rfl, h⟩
  · exact ⟨_, _, rfl, rfl, h⟩
  · cases h
theorem mm_d2_of {st : List Value} {κ : List Value → mm_R} {r : mm_O × mm_H} (h : mm_d2 st κ = some r) : ∃ v w t, st = v :: w :: t ∧ v.category = 1 ∧ w.category = 1 ∧ κ (v :: w :: v :: w :: t) = some r := by
  unfold mm_d2 at h
  split at h
  · exact ⟨_, _, _, rfl, rfl, rfl, h⟩
  · exact ⟨_, _, _, rfl, rfl, rfl, h⟩
  · cases h
theorem mm_lv_of {L : mm_L} {i : Nat} {κ : Int32 → mm_R} {r : mm_O × mm_H} (h : mm_lv L i κ = some r) : ∃ v, L[i]? = some (some (.int v)) ∧ κ v = some r := by
  unfold mm_lv at h
  split at h
  · next v e => exact ⟨v, e, h⟩
  · cases h
theorem mm_op_of {α : Type} {y : Option α} {κ : α → mm_R} {n : mm_R} {r : mm_O × mm_H} (h : mm_op y κ n = some r) : (∃ q, y = some q ∧ κ q = some r) ∨ (y = none ∧ n = some r) := by
  cases y with
  | none => exact Or.inr ⟨rfl, h⟩
  | some q => exact Or.inl ⟨q, rfl, h⟩
theorem mm_e1_of {st : List Value} {κ : Int32 → mm_R} {r : mm_O × mm_H} (h : mm_e1 st κ = some r) : ∃ v, st = [.int v] ∧ κ v = some r := by
  unfold mm_e1 at h
  split at h
  · exact ⟨_, rfl, h⟩
  · cases h
theorem mm_e0_of {st : List Value} {y : mm_R} {r : mm_O × mm_H} (h : mm_e0 st y = some r) : st = [] ∧ y = some r := by
  unfold mm_e0 at h
  split at h
  · exact ⟨rfl, h⟩
  · cases h
theorem mm_tg_of {pc : Nat} {off : Int} {κ : Nat → mm_R} {r : mm_O × mm_H} (h : mm_tg pc off κ = some r) : ∃ t : Nat, (pc : Int) + off = (t : Int) ∧ κ t = some r := by
  unfold mm_tg at h
  split at h
  · next t e => exact ⟨t, e, h⟩
  · cases h
theorem mm_ldI_of {L : mm_L} {i : Nat} {st : List Value} {κ : List Value → mm_R} {r : mm_O × mm_H} (h : mm_ldI L i st κ = some r) : ∃ v, L[i]? = some (some (.int v)) ∧ κ (.int v :: st) = some r := by
  unfold mm_ldI at h
  split at h
  · next v e => exact ⟨v, e, h⟩
  · cases h
theorem mm_ldJ_of {L : mm_L} {i : Nat} {st : List Value} {κ : List Value → mm_R} {r : mm_O × mm_H} (h : mm_ldJ L i st κ = some r) : ∃ v, L[i]? = some (some (.long v)) ∧ κ (.long v :: st) = some r := by
  unfold mm_ldJ at h
  split at h
  · next v e => exact ⟨v, e, h⟩
  · cases h
theorem mm_ldR_of {L : mm_L} {i : Nat} {st : List Value} {κ : List Value → mm_R} {r : mm_O × mm_H} (h : mm_ldR L i st κ = some r) : ∃ v, L[i]? = some (some (.ref v)) ∧ κ (.ref v :: st) = some r := by
  unfold mm_ldR at h
  split at h
  · next v e => exact ⟨v, e, h⟩
  · cases h
theorem mm_br_of {c : Prop} {a b : mm_R} {r : mm_O × mm_H} (h : mm_br c a b = some r) : (c ∧ a = some r) ∨ (¬ c ∧ b = some r) := by
  by_cases hc : c
  · rw [mm_br_t hc] at h; exact Or.inl ⟨hc, h⟩
  · rw [mm_br_f hc] at h; exact Or.inr ⟨hc, h⟩
theorem mm_bif_of {b : Bool} {a : mm_R} {r : mm_O × mm_H} (h : (bif b then a else none) = some r) : b = true ∧ a = some r := by
  cases b
  · cases h
  · exact ⟨rfl, h⟩
theorem mm_if_of {c : Prop} [Decidable c] {a : mm_R} {r : mm_O × mm_H} (h : (if c then none else a) = some r) : ¬ c ∧ a = some r := by
  by_cases hc : c
  · rw [if_pos hc] at h; cases h
  · rw [if_neg hc] at h; exact ⟨hc, h⟩
theorem mm_fd_of {α : Type} {t : List (List (Nat × α))} {own idx : Nat} {q : Nat × α} (h : mm_fd t own idx = some q) : q ∈ t.getD own [] ∧ q.1 = idx := by
  unfold mm_fd at h
  have e := List.find?_some (p := fun q : Nat × α => Nat.beq q.1 idx) h
  exact ⟨List.mem_of_find?_eq_some h, Nat.eq_of_beq_eq_true e⟩

/-- the goal at a point: what is made grows, and the machine comes to its end -/
def mm_G (p : Program) (l : Launch) (e : Env) (R : Room) (s : State) (m : MethodId) (args : Array Value) (below : List Frame) (meth : Method) (c : Code) (D : va_G) (cs : ClassId × ClassId × ClassId) (A : Nat → Prop) (h0 hf : mm_H) (Q : State → Prop) (nL : Nat) (pc : Nat) (L : mm_L) (st : List Value) (h : mm_H) : Prop :=
  (h.2.2.1 ≤ hf.2.2.1 ∧ h.2.2.2 ≤ hf.2.2.2) ∧ ∀ (H : Heap) (locs : List Loc) (cells slots : Nat) (ls : Array Slot), mm_Iv s D cs A h0 h H locs cells slots → mm_lr ls nL L → W p l e R s m args below meth c H locs cells slots Q (F0 m pc ls st)
