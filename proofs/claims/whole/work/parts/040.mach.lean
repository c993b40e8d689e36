/-! THE MINI MACHINE: cells by their addresses, values as the machine's own; a run of a method is a function.
  mm_C: a cell: an object (class, fields), a row of ints, of longs, of references.
  mm_H: the cells; the next address (none: not known any more); cells and slots made so far. -/
abbrev mm_C : Type := (Nat × List Value) ⊕ ((Nat × (Nat → Int32)) ⊕ ((Nat × (Nat → Int64)) ⊕ (Nat × (Nat → Option Nat))))
abbrev mm_H : Type := (Nat → Option mm_C) × (Option Nat × (Nat × Nat))
/-- how a method ends: it returns, or throws the exception of that number -/
abbrev mm_O : Type := (Option Value) ⊕ Nat
abbrev mm_R : Type := Option (mm_O × mm_H)
abbrev mm_L : Type := List (Option Value)
/-- what stands fast: the script (address, length, ints), the address of MOST, of the String constants, the texts by address -/
abbrev mm_E : Type := (Nat × Nat × (Nat → Int32)) × Nat × (Nat → Nat) × (Nat → Option (List Int32))
abbrev mm_K : Type := Nat → mm_L → List Value → mm_H → mm_R
abbrev mm_F : Type := Nat → List Value → mm_H → mm_R
def mm_up (h : mm_H) (a : Nat) (c : mm_C) : mm_H := (va_up h.1 a (some c), h.2)
def mm_most : List Int32 := [9, 999, 9, 99, 9999, 20, 119]
-- fields
def mm_gI (h : mm_H) (a ci k : Nat) (κ : Int32 → mm_R) : mm_R := match h.1 a with
  | some (.inl (c, fs)) => (match fs[k]? with
    | some (.int v) => bif Nat.beq c ci then κ v else none
    | _ => none)
  | _ => none
def mm_gJ (h : mm_H) (a ci k : Nat) (κ : Int64 → mm_R) : mm_R := match h.1 a with
  | some (.inl (c, fs)) => (match fs[k]? with
    | some (.long v) => bif Nat.beq c ci then κ v else none
    | _ => none)
  | _ => none
def mm_gR (h : mm_H) (a ci k : Nat) (κ : Nat → mm_R) : mm_R := match h.1 a with
  | some (.inl (c, fs)) => (match fs[k]? with
    | some (.ref v) => bif Nat.beq c ci then κ v else none
    | _ => none)
  | _ => none
def mm_pF (h : mm_H) (a ci k : Nat) (v : Value) (κ : mm_H → mm_R) : mm_R := match h.1 a with
  | some (.inl (c, fs)) => bif Nat.beq c ci && Nat.ble (k + 1) fs.length then κ (mm_up h a (.inl (c, fs.set k v))) else none
  | _ => none
-- rows
def mm_rI (E : mm_E) (h : mm_H) (a : Nat) (i : Int32) (κ : Int32 → mm_R) : mm_R := match h.1 a with
  | some (.inr (.inl (n, f))) => if i < 0 ∨ n ≤ i.toNatClampNeg then none else κ (f i.toNatClampNeg)
  | none => if a = E.1.1 then (if i < 0 ∨ E.1.2.1 ≤ i.toNatClampNeg then none else κ (E.1.2.2 i.toNatClampNeg))
      else if a = E.2.1 then (if i < 0 ∨ 7 ≤ i.toNatClampNeg then none else κ (mm_most.getD i.toNatClampNeg 0)) else none
  | _ => none
def mm_wI (h : mm_H) (a : Nat) (i x : Int32) (κ : mm_H → mm_R) : mm_R := match h.1 a with
  | some (.inr (.inl (n, f))) => if i < 0 ∨ n ≤ i.toNatClampNeg then none else κ (mm_up h a (.inr (.inl (n, upd f i.toNatClampNeg x))))
  | _ => none
def mm_rJ (h : mm_H) (a : Nat) (i : Int32) (κ : Int64 → mm_R) : mm_R := match h.1 a with
  | some (.inr (.inr (.inl (n, f)))) => if i < 0 ∨ n ≤ i.toNatClampNeg then none else κ (f i.toNatClampNeg)
  | _ => none
def mm_wJ (h : mm_H) (a : Nat) (i : Int32) (x : Int64) (κ : mm_H → mm_R) : mm_R := match h.1 a with
  | some (.inr (.inr (.inl (n, f)))) => if i < 0 ∨ n ≤ i.toNatClampNeg then none else κ (mm_up h a (.inr (.inr (.inl (n, vp_updL f i.toNatClampNeg x)))))
  | _ => none
def mm_rR (h : mm_H) (a : Nat) (i : Int32) (κ : Nat → mm_R) : mm_R := match h.1 a with
  | some (.inr (.inr (.inr (n, f)))) => if i < 0 ∨ n ≤ i.toNatClampNeg then none else (match f i.toNatClampNeg with
    | some q => κ q
    | none => none)
  | _ => none
/-- a Row into a row of Rows -/
def mm_wR (h : mm_H) (a : Nat) (i : Int32) (x : Nat) (κ : mm_H → mm_R) : mm_R := match h.1 a with
  | some (.inr (.inr (.inr (n, f)))) => (match h.1 x with
    | some (.inl (c, _)) => if (i < 0 ∨ n ≤ i.toNatClampNeg) ∨ ¬ c = 5 then none else κ (mm_up h a (.inr (.inr (.inr (n, va_up f i.toNatClampNeg (some x))))))
    | _ => none)
  | _ => none
def mm_ln (E : mm_E) (h : mm_H) (a : Nat) (κ : Int32 → mm_R) : mm_R := match h.1 a with
  | some (.inr (.inl (n, _))) => κ (Int32.ofNat n)
  | some (.inr (.inr (.inl (n, _)))) => κ (Int32.ofNat n)
  | some (.inr (.inr (.inr (n, _)))) => κ (Int32.ofNat n)
  | none => if a = E.1.1 then κ (Int32.ofNat E.1.2.1) else if a = E.2.1 then κ 7 else none
  | _ => none
-- what is made
def mm_al (h : mm_H) (c : mm_C) (sl : Nat) (κ : Nat → mm_H → mm_R) : mm_R := match h.2.1 with
  | some n => κ n (va_up h.1 n (some c), (some (n + 1), (h.2.2.1 + 1, h.2.2.2 + sl)))
  | none => none
-- calls
def mm_th (hs : List (Nat × Int32)) (x : Nat) (h : mm_H) : mm_R := match hs.find? (fun q => Nat.beq q.1 x) with
  | some q => some (.inl (some (.int q.2)), h)
  | none => bif hs.isEmpty then some (.inr x, h) else none
def mm_cI (hs : List (Nat × Int32)) (r : mm_R) (κ : Int32 → mm_H → mm_R) : mm_R := match r with
  | some (.inl (some (.int v)), h) => κ v h
  | some (.inr x, h) => mm_th hs x h
  | _ => none
def mm_cV (hs : List (Nat × Int32)) (r : mm_R) (κ : mm_H → mm_R) : mm_R := match r with
  | some (.inl none, h) => κ h
  | some (.inr x, h) => mm_th hs x h
  | _ => none
/-- arraycopy of ints, between two rows or in one -/
def mm_cp (h : mm_H) (a : Nat) (sp : Int32) (d : Nat) (dp n : Int32) (κ : mm_H → mm_R) : mm_R := match h.1 a with
  | some (.inr (.inl (n0, f))) => (match h.1 d with
    | some (.inr (.inl (n1, g))) => if sp < 0 ∨ dp < 0 ∨ n < 0 ∨ n0 < sp.toNatClampNeg + n.toNatClampNeg ∨ n1 < dp.toNatClampNeg + n.toNatClampNeg then none
        else κ (mm_up h d (.inr (.inl (n1, va_cpy f g sp.toNatClampNeg dp.toNatClampNeg n.toNatClampNeg))))
    | _ => none)
  | _ => none
-- a text
def mm_sl (E : mm_E) (a : Nat) (κ : Int32 → mm_R) : mm_R := match E.2.2.2 a with
  | some t => κ (Int32.ofNat t.length)
  | none => none
def mm_sa (E : mm_E) (a : Nat) (i : Int32) (κ : Int32 → mm_R) : mm_R := match E.2.2.2 a with
  | some t => if i < 0 ∨ t.length ≤ i.toNatClampNeg then none else κ (t.getD i.toNatClampNeg 0)
  | none => none
-- locals and stack
def mm_st1 (L : mm_L) (i : Nat) (v : Value) : mm_L := (match i with
  | 0 => L
  | k + 1 => (match L[k]? with
    | some (some (.long _)) => L.set k none
    | some (some (.double _)) => L.set k none
    | _ => L)).set i (some v)
def mm_st2 (L : mm_L) (i : Nat) (v : Value) : mm_L := (mm_st1 L i v).set (i + 1) none
/-- the same, the locals laid out one by one (so that what is stored is no nest of stores) -/
def mm_kl (a : Option Value) : Option Value := match a with
  | some (.long _) => none
  | some (.double _) => none
  | x => x
def mm_stk : Nat → mm_L → Value → (mm_L → mm_R) → mm_R
  | 0, L, v, κ => (match L with
    | _ :: r => κ (some v :: r)
    | [] => κ [])
  | 1, L, v, κ => (match L with
    | a :: _ :: r => κ (mm_kl a :: some v :: r)
    | L => κ L)
  | i + 2, L, v, κ => (match L with
    | a :: r => mm_stk (i + 1) r v (fun r' => κ (a :: r'))
    | [] => κ [])
def mm_stk2 : Nat → mm_L → Value → (mm_L → mm_R) → mm_R
  | 0, L, v, κ => (match L with
    | _ :: _ :: r => κ (some v :: none :: r)
    | L => κ L)
  | 1, L, v, κ => (match L with
    | a :: _ :: _ :: r => κ (mm_kl a :: some v :: none :: r)
    | L => κ L)
  | i + 2, L, v, κ => (match L with
    | a :: r => mm_stk2 (i + 1) r v (fun r' => κ (a :: r'))
    | [] => κ [])
theorem mm_kl_st (a : Option Value) (b : Option Value) (r : mm_L) (v : Value) : mm_st1 (a :: b :: r) 1 v = mm_kl a :: some v :: r := by
  cases a with
  | none => rfl
  | some w => cases w <;> rfl
theorem mm_st1_cons (a : Option Value) (r : mm_L) (i : Nat) (v : Value) : mm_st1 (a :: r) (i + 2) v = a :: mm_st1 r (i + 1) v := by
  unfold mm_st1
  simp only [List.getElem?_cons_succ]
  cases r[i]? with
  | none => rfl
  | some w => cases w with
    | none => rfl
    | some w => cases w <;> rfl
theorem mm_stk_eq : ∀ (i : Nat) (L : mm_L) (v : Value) (κ : mm_L → mm_R), i < L.length → mm_stk i L v κ = κ (mm_st1 L i v)
  | 0, [], _, _, h => absurd h (Nat.not_lt_zero _)
  | 0, _ :: _, _, _, _ => rfl
  | 1, [], _, _, h => absurd h (Nat.not_lt_zero _)
  | 1, [_], _, _, h => absurd h (by simp)
  | 1, a :: b :: r, v, κ, _ => congrArg κ (mm_kl_st a b r v).symm
  | i + 2, [], _, _, h => absurd h (Nat.not_lt_zero _)
  | i + 2, a :: r, v, κ, h => by
    show mm_stk (i + 1) r v (fun r' => κ (a :: r')) = _
    rw [mm_stk_eq (i + 1) r v _ (by rw [List.length_cons] at h; omega), mm_st1_cons]
theorem mm_stk2_eq : ∀ (i : Nat) (L : mm_L) (v : Value) (κ : mm_L → mm_R), i + 1 < L.length → mm_stk2 i L v κ = κ (mm_st2 L i v)
  | 0, [], _, _, h => absurd h (by simp)
  | 0, [_], _, _, h => absurd h (by simp)
  | 0, _ :: _ :: _, _, _, _ => rfl
  | 1, [], _, _, h => absurd h (by simp)
  | 1, [_], _, _, h => absurd h (by simp)
  | 1, [_, _], _, _, h => absurd h (by simp)
  | 1, a :: b :: c :: r, v, κ, _ => by
    show κ (mm_kl a :: some v :: none :: r) = κ ((mm_st1 (a :: b :: c :: r) 1 v).set 2 none)
    rw [mm_kl_st]
    rfl
  | i + 2, [], _, _, h => absurd h (by simp)
  | i + 2, a :: r, v, κ, h => by
    show mm_stk2 (i + 1) r v (fun r' => κ (a :: r')) = _
    rw [mm_stk2_eq (i + 1) r v _ (by rw [List.length_cons] at h; omega)]
    show _ = κ ((mm_st1 (a :: r) (i + 2) v).set (i + 3) none)
    rw [mm_st1_cons]
    rfl
theorem mm_stk_go : ∀ (i : Nat) (L : mm_L) (v : Value) (κ : mm_L → mm_R), ∃ L', mm_stk i L v κ = κ L'
  | 0, [], _, _ => ⟨_, rfl⟩
  | 0, _ :: _, _, _ => ⟨_, rfl⟩
  | 1, [], _, _ => ⟨_, rfl⟩
  | 1, [_], _, _ => ⟨_, rfl⟩
  | 1, _ :: _ :: _, _, _ => ⟨_, rfl⟩
  | i + 2, [], _, _ => ⟨_, rfl⟩
  | i + 2, a :: r, v, κ => by
    obtain ⟨L', h⟩ := mm_stk_go (i + 1) r v (fun r' => κ (a :: r'))
    exact ⟨a :: L', h⟩
theorem mm_stk2_go : ∀ (i : Nat) (L : mm_L) (v : Value) (κ : mm_L → mm_R), ∃ L', mm_stk2 i L v κ = κ L'
  | 0, [], _, _ => ⟨_, rfl⟩
  | 0, [_], _, _ => ⟨_, rfl⟩
  | 0, _ :: _ :: _, _, _ => ⟨_, rfl⟩
  | 1, [], _, _ => ⟨_, rfl⟩
  | 1, [_], _, _ => ⟨_, rfl⟩
  | 1, [_, _], _, _ => ⟨_, rfl⟩
  | 1, _ :: _ :: _ :: _, _, _ => ⟨_, rfl⟩
  | i + 2, [], _, _ => ⟨_, rfl⟩
  | i + 2, a :: r, v, κ => by
    obtain ⟨L', h⟩ := mm_stk2_go (i + 1) r v (fun r' => κ (a :: r'))
    exact ⟨a :: L', h⟩
def mm_pop : Nat → List Value → List Value → Option (List Value × List Value)
  | 0, acc, st => some (acc, st)
  | n + 1, acc, v :: st => mm_pop n (v :: acc) st
  | _ + 1, _, [] => none
def mm_wt : List Value → Nat
  | [] => 0
  | v :: r => (match v with
    | .long _ => 2
    | .double _ => 2
    | _ => 1) + mm_wt r
def mm_i1 (st : List Value) (κ : Int32 → List Value → mm_R) : mm_R := match st with
  | .int x :: r => κ x r
  | _ => none
def mm_i2 (st : List Value) (κ : Int32 → Int32 → List Value → mm_R) : mm_R := match st with
  | .int y :: .int x :: r => κ x y r
  | _ => none
def mm_j2 (st : List Value) (κ : Int64 → Int64 → List Value → mm_R) : mm_R := match st with
  | .long y :: .long x :: r => κ x y r
  | _ => none
def mm_r1 (st : List Value) (κ : Nat → List Value → mm_R) : mm_R := match st with
  | .ref a :: r => κ a r
  | _ => none
def mm_l1 (st : List Value) (κ : Int64 → List Value → mm_R) : mm_R := match st with
  | .long a :: r => κ a r
  | _ => none
def mm_il (st : List Value) (κ : Int32 → Int64 → List Value → mm_R) : mm_R := match st with
  | .int b :: .long a :: r => κ b a r
  | _ => none
def mm_ir (st : List Value) (κ : Int32 → Nat → List Value → mm_R) : mm_R := match st with
  | .int i :: .ref a :: r => κ i a r
  | _ => none
def mm_iir (st : List Value) (κ : Int32 → Int32 → Nat → List Value → mm_R) : mm_R := match st with
  | .int v :: .int i :: .ref a :: r => κ v i a r
  | _ => none
def mm_lir (st : List Value) (κ : Int64 → Int32 → Nat → List Value → mm_R) : mm_R := match st with
  | .long v :: .int i :: .ref a :: r => κ v i a r
  | _ => none
def mm_rir (st : List Value) (κ : Nat → Int32 → Nat → List Value → mm_R) : mm_R := match st with
  | .ref v :: .int i :: .ref a :: r => κ v i a r
  | _ => none
def mm_vr (st : List Value) (κ : Value → Nat → List Value → mm_R) : mm_R := match st with
  | v :: .ref a :: r => κ v a r
  | _ => none
def mm_cq (st : List Value) (κ : Int32 → Int32 → Nat → Int32 → Nat → List Value → mm_R) : mm_R := match st with
  | .int n :: .int dp :: .ref d :: .int sp :: .ref a :: r => κ n dp d sp a r
  | _ => none
def mm_dp (st : List Value) (κ : List Value → mm_R) : mm_R := match st with
  | .int a :: r => κ (.int a :: .int a :: r)
  | .ref a :: r => κ (.ref a :: .ref a :: r)
  | _ => none
def mm_d2 (st : List Value) (κ : List Value → mm_R) : mm_R := match st with
  | .int a :: .int b :: r => κ (.int a :: .int b :: .int a :: .int b :: r)
  | .int a :: .ref b :: r => κ (.int a :: .ref b :: .int a :: .ref b :: r)
  | _ => none
def mm_lv (L : mm_L) (i : Nat) (κ : Int32 → mm_R) : mm_R := match L[i]? with
  | some (some (.int v)) => κ v
  | _ => none
def mm_op {α : Type} (x : Option α) (κ : α → mm_R) (n : mm_R) : mm_R := match x with
  | some q => κ q
  | none => n
def mm_e1 (st : List Value) (κ : Int32 → mm_R) : mm_R := match st with
  | [.int v] => κ v
  | _ => none
def mm_e0 (st : List Value) (r : mm_R) : mm_R := match st with
  | [] => r
  | _ => none
def mm_tg (pc : Nat) (off : Int) (κ : Nat → mm_R) : mm_R := match (pc : Int) + off with
  | .ofNat t => κ t
  | _ => none
def mm_fd {α : Type} (t : List (List (Nat × α))) (own idx : Nat) : Option (Nat × α) := (t.getD own []).find? (fun q => Nat.beq q.1 idx)
def mm_lay (vs : List Value) : mm_L := vs.flatMap fun v => match v with
  | .long _ => [some v, none]
  | .double _ => [some v, none]
  | _ => [some v]
def mm_ent (vs : List Value) (n : Nat) : mm_L := mm_lay vs ++ List.replicate (n - (mm_lay vs).length) none
def mm_mx (x y : Int32) : Int32 := if x < y then y else x
def mm_mn (x y : Int32) : Int32 := if y < x then y else x
/-- a call of method j; special numbers from 1000 on -/
def mm_inv (E : mm_E) (cl : mm_F) (x : mm_I) (j len pc : Nat) (go : mm_K) (L : mm_L) (st : List Value) (h : mm_H) : mm_R :=
  bif Nat.ble 1000 j then
    (bif Nat.beq j 1000 then mm_r1 st (fun _ r => bif Nat.ble (mm_wt r) 8 then go (pc + len) L r h else none)
    else bif Nat.beq j 1001 then mm_r1 st (fun a r => bif Nat.ble (mm_wt r) 8 then mm_sl E a (fun v => go (pc + len) L (.int v :: r) h) else none)
    else bif Nat.beq j 1002 then mm_ir st (fun i a r => bif Nat.ble (mm_wt r) 8 then mm_sa E a i (fun v => go (pc + len) L (.int v :: r) h) else none)
    else bif Nat.beq j 1003 then mm_cq st (fun n dp d sp a r => bif Nat.ble (mm_wt r) 8 then mm_cp h a sp d dp n (fun h' => go (pc + len) L r h') else none)
    else bif Nat.beq j 1004 then mm_i2 st (fun a b r => bif Nat.ble (mm_wt r) 8 then go (pc + len) L (.int (mm_mx a b) :: r) h else none)
    else bif Nat.beq j 1005 then mm_i2 st (fun a b r => bif Nat.ble (mm_wt r) 8 then go (pc + len) L (.int (mm_mn a b) :: r) h else none)
    else none)
  else mm_op (mm_pop (mm_x j).2.1.2.1 [] st) (fun q => bif Nat.ble (mm_wt q.2) 8 then
        (bif Nat.beq (mm_x j).2.1.2.2 0 then mm_cV x.2.2.1.2.2 (cl j q.1 h) (fun h' => go (pc + len) L q.2 h')
         else mm_cI x.2.2.1.2.2 (cl j q.1 h) (fun v h' => go (pc + len) L (.int v :: q.2) h'))
      else none) none
/-- a branch -/
noncomputable def mm_br (c : Prop) (a b : mm_R) : mm_R := @ite _ c (Classical.propDecidable c) a b
theorem mm_br_t {c : Prop} {a b : mm_R} (h : c) : mm_br c a b = a := by unfold mm_br; exact if_pos h
theorem mm_br_f {c : Prop} {a b : mm_R} (h : ¬ c) : mm_br c a b = b := by unfold mm_br; exact if_neg h
noncomputable def mm_cmp (cd : ClassFile.Cond) (x y : Int32) (a b : mm_R) : mm_R := match cd with
  | .eq => mm_br (x = y) a b
  | .ne => mm_br (x = y) b a
  | .lt => mm_br (x < y) a b
  | .ge => mm_br (y ≤ x) a b
  | .gt => mm_br (y < x) a b
  | .le => mm_br (x ≤ y) a b
noncomputable def mm_nz (b : Int32) (r : mm_R) : mm_R := mm_br (b = 0) none r
noncomputable def mm_nzj (b : Int64) (r : mm_R) : mm_R := mm_br (b = 0) none r
/-- 0 or 1 -/
noncomputable def mm_bz (b : Int32) (r : mm_R) : mm_R := mm_br (b = 0 ∨ b = 1) r none
/-- a length -/
noncomputable def mm_nn (n : Int32) (r : Nat → mm_R) : mm_R := mm_br (n < 0 ∨ 100000 < n.toNatClampNeg) none (r n.toNatClampNeg)
/-- a value for a field of that type -/
noncomputable def mm_pv (v : Value) (ty : Nat) (r : mm_R) : mm_R := match v with
  | .int n => bif Nat.beq ty 0 then r else bif Nat.beq ty 3 then mm_bz n r else none
  | .long _ => bif Nat.beq ty 1 then r else none
  | .ref _ => bif Nat.beq ty 2 then r else none
  | _ => none
/-- a switch by a row of numbers, by pairs -/
noncomputable def mm_sw (a : Int32) (df : Int) : Int → List Int → (Int → mm_R) → mm_R
  | _, [], κ => κ df
  | lo, off :: r, κ => mm_br (a = Int32.ofInt lo) (κ off) (mm_sw a df (lo + 1) r κ)
noncomputable def mm_lw (a : Int32) (df : Int) : List (Int × Int) → (Int → mm_R) → mm_R
  | [], κ => κ df
  | q :: r, κ => mm_br (a = Int32.ofInt q.1) (κ q.2) (mm_lw a df r κ)
def mm_bin (st : List Value) (f : Int32 → Int32 → Int32) (κ : List Value → mm_R) : mm_R := mm_i2 st (fun x y r => κ (.int (f x y) :: r))
def mm_bij (st : List Value) (f : Int64 → Int64 → Int64) (κ : List Value → mm_R) : mm_R := mm_j2 st (fun x y r => κ (.long (f x y) :: r))
def mm_ldI (L : mm_L) (i : Nat) (st : List Value) (κ : List Value → mm_R) : mm_R := match L[i]? with
  | some (some (.int v)) => κ (.int v :: st)
  | _ => none
def mm_ldJ (L : mm_L) (i : Nat) (st : List Value) (κ : List Value → mm_R) : mm_R := match L[i]? with
  | some (some (.long v)) => κ (.long v :: st)
  | _ => none
def mm_ldR (L : mm_L) (i : Nat) (st : List Value) (κ : List Value → mm_R) : mm_R := match L[i]? with
  | some (some (.ref v)) => κ (.ref v :: st)
  | _ => none
/-- how long an instruction is (0: a switch) -/
def mm_lk : Instr → Nat
  | .bipush _ => 2 | .sipush _ => 3 | .ldc _ => 2 | .ldc_w _ => 3 | .ldc2_w _ => 3
  | .iload _ => 2 | .lload _ => 2 | .aload _ => 2 | .istore _ => 2 | .lstore _ => 2 | .astore _ => 2 | .iinc _ _ => 3
  | .goto _ => 3 | .if_icmp _ _ => 3 | .ifCond _ _ => 3 | .tableswitch _ _ _ _ => 0 | .lookupswitch _ _ => 0
  | .getfield _ => 3 | .putfield _ => 3 | .getstatic _ => 3 | .newarray _ => 2 | .anewarray _ => 3 | .new _ => 3
  | .invokevirtual _ => 3 | .invokestatic _ => 3 | .invokespecial _ => 3
  | _ => 1
/-- one instruction -/
noncomputable def mm_stp (E : mm_E) (cl : mm_F) (x : mm_I) (go : mm_K) (i : Instr) (len pc : Nat) (L : mm_L) (st : List Value) (h : mm_H) : mm_R := match i with
  | .iconst v => go (pc + len) L (.int (Int32.ofInt v) :: st) h
  | .bipush v => go (pc + len) L (.int (Int8.ofInt v).toInt32 :: st) h
  | .sipush v => go (pc + len) L (.int (Int16.ofInt v).toInt32 :: st) h
  | .lconst v => go (pc + len) L (.long (Int64.ofNat v.val) :: st) h
  | .ldc k => mm_op (mm_fd mm_ct x.2.1.1 k) (fun q => go (pc + len) L (.int q.2.1 :: st) h) (mm_op (mm_fd mm_sr x.2.1.1 k) (fun q => go (pc + len) L (.ref (E.2.2.1 q.2.1) :: st) h) none)
  | .ldc_w k => mm_op (mm_fd mm_ct x.2.1.1 k) (fun q => go (pc + len) L (.int q.2.1 :: st) h) (mm_op (mm_fd mm_sr x.2.1.1 k) (fun q => go (pc + len) L (.ref (E.2.2.1 q.2.1) :: st) h) none)
  | .ldc2_w k => mm_op (mm_fd mm_cj x.2.1.1 k) (fun q => go (pc + len) L (.long q.2.1 :: st) h) none
  | .iload_n k => mm_ldI L k.val st (fun s' => go (pc + len) L s' h)
  | .iload k => mm_ldI L k st (fun s' => go (pc + len) L s' h)
  | .lload_n k => mm_ldJ L k.val st (fun s' => go (pc + len) L s' h)
  | .lload k => mm_ldJ L k st (fun s' => go (pc + len) L s' h)
  | .aload_n k => mm_ldR L k.val st (fun s' => go (pc + len) L s' h)
  | .aload k => mm_ldR L k st (fun s' => go (pc + len) L s' h)
  | .istore_n k => mm_i1 st (fun v r => bif Nat.ble (k.val + 1) L.length then mm_stk k.val L (.int v) (fun L' => go (pc + len) L' r h) else none)
  | .istore k => mm_i1 st (fun v r => bif Nat.ble (k + 1) L.length then mm_stk k L (.int v) (fun L' => go (pc + len) L' r h) else none)
  | .astore_n k => mm_r1 st (fun v r => bif Nat.ble (k.val + 1) L.length then mm_stk k.val L (.ref v) (fun L' => go (pc + len) L' r h) else none)
  | .astore k => mm_r1 st (fun v r => bif Nat.ble (k + 1) L.length then mm_stk k L (.ref v) (fun L' => go (pc + len) L' r h) else none)
  | .lstore_n k => mm_l1 st (fun v r => bif Nat.ble (k.val + 2) L.length then mm_stk2 k.val L (.long v) (fun L' => go (pc + len) L' r h) else none)
  | .lstore k => mm_l1 st (fun v r => bif Nat.ble (k + 2) L.length then mm_stk2 k L (.long v) (fun L' => go (pc + len) L' r h) else none)
  | .iinc k n => mm_lv L k (fun v => mm_stk k L (.int (v + Int32.ofInt n)) (fun L' => go (pc + len) L' st h))
  | .iadd => mm_bin st (fun a b => a + b) (fun s' => go (pc + len) L s' h)
  | .isub => mm_bin st (fun a b => a - b) (fun s' => go (pc + len) L s' h)
  | .imul => mm_bin st (fun a b => a * b) (fun s' => go (pc + len) L s' h)
  | .iand => mm_bin st (fun a b => a &&& b) (fun s' => go (pc + len) L s' h)
  | .ior => mm_bin st (fun a b => a ||| b) (fun s' => go (pc + len) L s' h)
  | .ixor => mm_bin st (fun a b => a ^^^ b) (fun s' => go (pc + len) L s' h)
  | .ishl => mm_bin st (fun a b => a <<< (b &&& 31)) (fun s' => go (pc + len) L s' h)
  | .ishr => mm_bin st (fun a b => a >>> (b &&& 31)) (fun s' => go (pc + len) L s' h)
  | .iushr => mm_bin st (fun a b => (a.toUInt32 >>> (b.toUInt32 &&& Int32.toUInt32 31)).toInt32) (fun s' => go (pc + len) L s' h)
  | .idiv => mm_i2 st (fun a b r => mm_nz b (go (pc + len) L (.int (a / b) :: r) h))
  | .irem => mm_i2 st (fun a b r => mm_nz b (go (pc + len) L (.int (a - a / b * b) :: r) h))
  | .ineg => mm_i1 st (fun a r => go (pc + len) L (.int (-a) :: r) h)
  | .ladd => mm_bij st (fun a b => a + b) (fun s' => go (pc + len) L s' h)
  | .lmul => mm_bij st (fun a b => a * b) (fun s' => go (pc + len) L s' h)
  | .land => mm_bij st (fun a b => a &&& b) (fun s' => go (pc + len) L s' h)
  | .ldiv => mm_j2 st (fun a b r => mm_nzj b (go (pc + len) L (.long (a / b) :: r) h))
  | .lshl => mm_il st (fun b a r => go (pc + len) L (.long (a <<< (b.toInt64 &&& 63)) :: r) h)
  | .lshr => mm_il st (fun b a r => go (pc + len) L (.long (a >>> (b.toInt64 &&& 63)) :: r) h)
  | .lcmp => mm_j2 st (fun a b r => go (pc + len) L (.int (lg_cmp a b) :: r) h)
  | .i2l => mm_i1 st (fun a r => go (pc + len) L (.long a.toInt64 :: r) h)
  | .l2i => mm_l1 st (fun a r => go (pc + len) L (.int a.toInt32 :: r) h)
  | .dup => mm_dp st (fun s' => go (pc + len) L s' h)
  | .dup2 => mm_d2 st (fun s' => go (pc + len) L s' h)
  | .pop => mm_i1 st (fun _ r => go (pc + len) L r h)
  | .goto off => mm_tg pc off (fun t => go t L st h)
  | .if_icmp cd off => mm_i2 st (fun a b r => mm_tg pc off (fun t => mm_cmp cd a b (go t L r h) (go (pc + len) L r h)))
  | .ifCond cd off => mm_i1 st (fun a r => mm_tg pc off (fun t => mm_cmp cd a 0 (go t L r h) (go (pc + len) L r h)))
  | .tableswitch df lo hi offs => mm_i1 st (fun a r => bif decide (-2147483648 ≤ lo ∧ lo + offs.toList.length = hi + 1 ∧ hi < 2147483648) then mm_sw a df lo offs.toList (fun off => mm_tg pc off (fun t => go t L r h)) else none)
  | .lookupswitch df ps => mm_i1 st (fun a r => bif (ps.toList.zip (ps.toList.drop 1)).all (fun (u, w) => decide (u.1 < w.1)) && ps.toList.all (fun q => decide (-2147483648 ≤ q.1 ∧ q.1 < 2147483648)) then mm_lw a df ps.toList (fun off => mm_tg pc off (fun t => go t L r h)) else none)
  | .getfield k => mm_r1 st (fun a r => mm_op (mm_fd mm_fl x.2.1.1 k) (fun q =>
      bif Nat.beq q.2.2.2.1 1 then mm_gJ h a q.2.1 q.2.2.1 (fun v => go (pc + len) L (.long v :: r) h)
      else bif Nat.beq q.2.2.2.1 2 then mm_gR h a q.2.1 q.2.2.1 (fun v => go (pc + len) L (.ref v :: r) h)
      else mm_gI h a q.2.1 q.2.2.1 (fun v => go (pc + len) L (.int v :: r) h)) none)
  | .putfield k => mm_vr st (fun v a r => mm_op (mm_fd mm_fl x.2.1.1 k) (fun q =>
      bif !((mm_fin.getD q.2.1 []).getD q.2.2.1 true) || (Nat.beq q.2.1 x.2.1.1 && decide (x.1.1.name = "<init>")) then
        mm_pv v q.2.2.2.1 (mm_pF h a q.2.1 q.2.2.1 v (fun h' => go (pc + len) L r h')) else none) none)
  | .getstatic k => bif Nat.beq x.2.1.1 8 && Nat.beq k 323 then go (pc + len) L (.ref E.2.1 :: st) h else none
  | .iaload => mm_ir st (fun i a r => mm_rI E h a i (fun v => go (pc + len) L (.int v :: r) h))
  | .iastore => mm_iir st (fun v i a r => mm_wI h a i v (fun h' => go (pc + len) L r h'))
  | .laload => mm_ir st (fun i a r => mm_rJ h a i (fun v => go (pc + len) L (.long v :: r) h))
  | .lastore => mm_lir st (fun v i a r => mm_wJ h a i v (fun h' => go (pc + len) L r h'))
  | .aaload => mm_ir st (fun i a r => mm_rR h a i (fun v => go (pc + len) L (.ref v :: r) h))
  | .aastore => mm_rir st (fun v i a r => mm_wR h a i v (fun h' => go (pc + len) L r h'))
  | .arraylength => mm_r1 st (fun a r => mm_ln E h a (fun v => go (pc + len) L (.int v :: r) h))
  | .newarray .int => mm_i1 st (fun n r => mm_nn n (fun k => mm_al h (.inr (.inl (k, fun _ => 0))) k (fun q h' => go (pc + len) L (.ref q :: r) h')))
  | .newarray .long => mm_i1 st (fun n r => mm_nn n (fun k => mm_al h (.inr (.inr (.inl (k, fun _ => 0)))) k (fun q h' => go (pc + len) L (.ref q :: r) h')))
  | .anewarray k => bif Nat.beq x.2.1.1 1 && Nat.beq k 9 then mm_i1 st (fun n r => mm_nn n (fun k => mm_al h (.inr (.inr (.inr (k, fun _ => none)))) k (fun q h' => go (pc + len) L (.ref q :: r) h'))) else none
  | .new k => mm_op (x.2.2.1.2.1.find? (fun q => Nat.beq q.1 pc)) (fun q => bif Nat.ble (mm_wt st) 8 then some (.inr q.2, (h.1, (none, (h.2.2.1 + 1, h.2.2.2 + 6)))) else none)
      (mm_op (mm_fd mm_nw x.2.1.1 k) (fun q => mm_al h (.inl (q.2.1, mm_new.getD q.2.1 [])) (mm_new.getD q.2.1 []).length (fun a h' => go (pc + len) L (.ref a :: st) h')) none)
  | .invokevirtual k => mm_op (mm_fd mm_ml x.2.1.1 k) (fun q => mm_inv E cl x q.2.1 len pc go L st h) none
  | .invokestatic k => mm_op (mm_fd mm_ml x.2.1.1 k) (fun q => mm_inv E cl x q.2.1 len pc go L st h) none
  | .invokespecial k => mm_op (mm_fd mm_ml x.2.1.1 k) (fun q => mm_inv E cl x q.2.1 len pc go L st h) none
  | .ireturn => mm_e1 st (fun v => bif Nat.beq x.2.1.2.2 1 then some (.inl (some (.int v)), h) else bif Nat.beq x.2.1.2.2 2 then mm_bz v (some (.inl (some (.int v)), h)) else none)
  | .return_ => mm_e0 st (bif Nat.beq x.2.1.2.2 0 then some (.inl none, h) else none)
  | _ => none
def mm_ins (x : mm_I) (pc : Nat) : Option (Nat × Instr × Nat) := (x.2.2.2.getD (pc / 32) []).find? (fun q => Nat.beq q.1 pc)
def mm_cut (x : mm_I) (pc : Nat) : Bool := x.2.2.1.1.any (fun q => Nat.beq q pc)
/-- from pc to the next cuts -/
noncomputable def mm_blk (E : mm_E) (cl : mm_F) (kn : mm_K) (x : mm_I) : Nat → mm_K
  | 0 => fun _ _ _ _ => none
  | n + 1 => fun pc L st h => match mm_ins x pc with
    | some (_, i, len) => mm_stp E cl x (fun t L' st' h' => bif mm_cut x t then kn t L' st' h' else mm_blk E cl kn x n t L' st' h') i len pc L st h
    | none => none
/-- from cut to cut -/
noncomputable def mm_run (E : mm_E) (cl : mm_F) (x : mm_I) : Nat → mm_K
  | 0 => fun _ _ _ _ => none
  | n + 1 => fun pc L st h => mm_blk E cl (mm_run E cl x n) x 3000 pc L st h
def mm_fuel : Nat := 100000
/-- the object that a method is called of is one of its class -/
def mm_rok (j : Nat) (as : List Value) (h : mm_H) : Bool := bif mm_sta j then true else (match as with
  | .ref b :: _ => (match h.1 b with
    | some (.inl (ci, _)) => Nat.beq ci (mm_x j).2.1.1
    | _ => false)
  | _ => false)
/-- a method's call, at most so deep -/
noncomputable def mm_ev (E : mm_E) : Nat → mm_F
  | 0 => fun _ _ _ => none
  | d + 1 => fun j as h => bif mm_rok j as h && Nat.ble (mm_lay as).length (mm_x j).1.2.2.1 then mm_run E (mm_ev E d) (mm_x j) mm_fuel 0 (mm_ent as (mm_x j).1.2.2.1) [] h else none
