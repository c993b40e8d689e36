/-! SOUNDNESS, eleventh part: a step, a run from cut to cut -/
theorem mm_sl_of {E : mm_E} {a : Nat} {κ : Int32 → mm_R} {z : mm_O × mm_H} (h : mm_sl E a κ = some z) : ∃ t, E.2.2.2 a = some t ∧ κ (Int32.ofNat t.length) = some z := by
  unfold mm_sl at h
  split at h
  · next t ht => exact ⟨t, ht, h⟩
  · cases h
theorem mm_sa_of {E : mm_E} {a : Nat} {i : Int32} {κ : Int32 → mm_R} {z : mm_O × mm_H} (h : mm_sa E a i κ = some z) : ∃ t, E.2.2.2 a = some t ∧ vp_in i t.length ∧ κ (t.getD i.toNatClampNeg 0) = some z := by
  unfold mm_sa at h
  split at h
  · next t ht =>
    obtain ⟨hn, h2⟩ := mm_if_of h
    exact ⟨t, ht, hn, h2⟩
  · cases h
section MMK
variable {p : Program} {l : Launch} {e : Env} {R : Room} {s : State} {m : MethodId} {args : Array Value} {below : List Frame} {meth : Method} {c : Code} {D : va_G} {cs : ClassId × ClassId × ClassId} {A A' : Nat → Prop} {h0 hf h h' : mm_H} {Q : State → Prop} {o o' : mm_O} {E : mm_E} {cl : mm_F} {x : mm_I} {H H1 : Heap} {locs locs1 : List Loc} {cells slots nL pc d j k : Nat} {L : mm_L} {st rest as : List Value} {ls : Array Slot} {g : JFrame} {go : mm_K} {len : Nat} {U : State}
/-- what is owed of the two methods of String, at a call -/
def mm_ST (p : Program) (l : Launch) (e : Env) (R : Room) (s : State) (m : MethodId) (args : Array Value) (below : List Frame) (meth : Method) (c : Code) (D : va_G) (cs : ClassId × ClassId × ClassId) (A : Nat → Prop) (h0 hf : mm_H) (Q : State → Prop) (E : mm_E) (x : mm_I) : Prop :=
  ∀ (a : Nat) (t : List Int32) (pc k : Nat) (h : mm_H) (H : Heap) (locs : List Loc) (cells slots : Nat) (ls : Array Slot) (rest : List Value), E.2.2.2 a = some t → decode x.1.2.1 pc = .ok (.invokevirtual k, 3) → Nat.ble (mm_wt rest) 8 = true → mm_Iv s D cs A h0 h H locs cells slots → ls.size = x.1.2.2.1 → (h.2.2.1 ≤ hf.2.2.1 ∧ h.2.2.2 ≤ hf.2.2.2) →
    (Cond.methodLink (mm_cn x.2.1.1) k ⟨"java/lang/String", "length", "()I"⟩ ∈ mm_tb → (∀ locs1, va_S A s.heap H locs1 → W p l e R s m args below meth c H locs1 cells slots Q (F0 m (pc + 3) ls (.int (Int32.ofNat t.length) :: rest))) → W p l e R s m args below meth c H locs cells slots Q (F0 m pc ls (.ref a :: rest)))
    ∧ (Cond.methodLink (mm_cn x.2.1.1) k ⟨"java/lang/String", "charAt", "(I)C"⟩ ∈ mm_tb → ∀ i : Int32, vp_in i t.length → (∀ locs1, va_S A s.heap H locs1 → W p l e R s m args below meth c H locs1 cells slots Q (F0 m (pc + 3) ls (.int (t.getD i.toNatClampNeg 0) :: rest))) → W p l e R s m args below meth c H locs cells slots Q (F0 m pc ls (.int i :: .ref a :: rest)))
theorem mm_Iv_locs (hI : mm_Iv s D cs A h0 h H locs cells slots) (hS : va_S A s.heap H locs1) : mm_Iv s D cs A h0 h H locs1 cells slots := ⟨hI.1, hS, hI.2.2⟩
theorem mm_q_invokevirtual (C : mm_cx p R s m args meth c D cs A h0 hf E x) (HC : mm_Cl l E D cs cl d) (hRm : d + 13 ≤ R.frames ∧ 60 * d + 240 ≤ R.locals) (HT : mm_HT p l e R s m args below meth c D cs A h0 hf Q o x) (HS : mm_ST p l e R s m args below meth c D cs A h0 hf Q E x) (hgo : ∀ t L' st' h', go t L' st' h' = some (o, hf) → mm_G p l e R s m args below meth c D cs A h0 hf Q x.1.2.2.1 t L' st' h')
    (hin : ∃ q0, mm_ins x pc = some (q0, .invokevirtual k, len)) (hd : decode x.1.2.1 pc = .ok (.invokevirtual k, len)) (hl : mm_lk (.invokevirtual k) = len) (hk : mm_iok x (.invokevirtual k) = true) (hr : mm_stp E cl x go (.invokevirtual k) len pc L st h = some (o, hf)) : mm_G p l e R s m args below meth c D cs A h0 hf Q x.1.2.2.1 pc L st h := by
  have hl : 3 = len := hl
  subst hl
  rcases mm_op_of (show mm_op (mm_fd mm_ml x.2.1.1 k) (fun q => mm_inv E cl x q.2.1 3 pc go L st h) none = some (o, hf) from hr) with ⟨q, hq, hr1⟩ | ⟨-, hr1⟩
  · have ho := C.2.2.2.2.2.2.1
    obtain ⟨m1, m2, m3⟩ := mm_ml_at ho hq
    have hk : (Nat.beq q.2.2.2 0 && (Nat.beq q.2.1 1001 || (Nat.beq q.2.1 1002 || (Nat.ble (q.2.1 + 1) 1000 && (!(mm_sta q.2.1) && !(mm_ctr q.2.1)))))) = true := by
      have hk2 : (mm_fd mm_ml x.2.1.1 k).elim true (fun q => Nat.beq q.2.2.2 0 && (Nat.beq q.2.1 1001 || (Nat.beq q.2.1 1002 || (Nat.ble (q.2.1 + 1) 1000 && (!(mm_sta q.2.1) && !(mm_ctr q.2.1)))))) = true := hk
      rw [hq] at hk2
      exact hk2
    rw [Bool.and_eq_true] at hk
    have e2 := Nat.eq_of_beq_eq_true hk.1
    have m1 := m1 (by omega)
    have hk := hk.2
    rw [Bool.or_eq_true, Bool.or_eq_true] at hk
    rcases hk with hk | hk | hk
    · have e1 := Nat.eq_of_beq_eq_true hk
      rw [e1] at hr1 m1
      obtain ⟨a, r, rfl, hr2⟩ := mm_r1_of (show mm_r1 st (fun a r => bif Nat.ble (mm_wt r) 8 then mm_sl E a (fun v => go (pc + 3) L (.int v :: r) h) else none) = some (o, hf) from hr1)
      obtain ⟨hw, hr3⟩ := mm_bif_of hr2
      obtain ⟨t, ht, hr4⟩ := mm_sl_of hr3
      have g := hgo _ _ _ _ hr4
      exact ⟨g.1, fun H locs cells slots ls hI hL => (HS a t pc k h H locs cells slots ls r ht hd hw hI hL.1 g.1).1 m1 (fun locs1 hS1 => g.2 H locs1 cells slots ls (mm_Iv_locs hI hS1) hL)⟩
    · have e1 := Nat.eq_of_beq_eq_true hk
      rw [e1] at hr1 m1
      obtain ⟨i, a, r, rfl, hr2⟩ := mm_ir_of (show mm_ir st (fun i a r => bif Nat.ble (mm_wt r) 8 then mm_sa E a i (fun v => go (pc + 3) L (.int v :: r) h) else none) = some (o, hf) from hr1)
      obtain ⟨hw, hr3⟩ := mm_bif_of hr2
      obtain ⟨t, ht, hn, hr4⟩ := mm_sa_of hr3
      have g := hgo _ _ _ _ hr4
      exact ⟨g.1, fun H locs cells slots ls hI hL => (HS a t pc k h H locs cells slots ls r ht hd hw hI hL.1 g.1).2 m1 i hn (fun locs1 hS1 => g.2 H locs1 cells slots ls (mm_Iv_locs hI hS1) hL)⟩
    · rw [Bool.and_eq_true, Bool.and_eq_true] at hk
      have e1 := Nat.le_of_ble_eq_true hk.1
      obtain ⟨j1, j2⟩ := m3 (by omega)
      have hyn : mm_yn q.2.1 = (mm_x q.2.1).1.1 := by
        unfold mm_yn
        have z : ∀ n, 1000 ≤ n → Nat.beq q.2.1 n = false := fun n hn => by
          cases hz : Nat.beq q.2.1 n with
          | true => have := Nat.eq_of_beq_eq_true hz; omega
          | false => rfl
        rw [z 1000 (by omega), z 1001 (by omega), z 1002 (by omega), z 1003 (by omega), z 1004 (by omega), z 1005 (by omega)]
        rfl
      have hr2 : mm_op (mm_pop (mm_x q.2.1).2.1.2.1 [] st) (fun q' => bif Nat.ble (mm_wt q'.2) 8 then
        (bif Nat.beq (mm_x q.2.1).2.1.2.2 0 then mm_cV x.2.2.1.2.2 (cl q.2.1 q'.1 h) (fun h' => go (pc + 3) L q'.2 h')
         else mm_cI x.2.2.1.2.2 (cl q.2.1 q'.1 h) (fun v h' => go (pc + 3) L (.int v :: q'.2) h'))
        else none) none = some (o, hf) := by
        unfold mm_inv at hr1
        rw [show Nat.ble 1000 q.2.1 = false from by cases hz : Nat.ble 1000 q.2.1 with | true => exact absurd (Nat.le_of_ble_eq_true hz) (by omega) | false => rfl, cond_false] at hr1
        exact hr1
      rw [hyn] at m1
      obtain ⟨q0, hin⟩ := hin
      exact mm_callG (k := k) C HC hRm HT hgo ⟨q0, _, hin, k, Or.inl rfl⟩ j1 j2 (Or.inr (Or.inl ⟨by simpa using hk.2.1, by simpa using hk.2.2, hd, m1⟩)) hr2
  · cases hr1
/-- what is owed where the method throws by itself, and where it returns -/
def mm_HN (p : Program) (l : Launch) (e : Env) (R : Room) (s : State) (m : MethodId) (args : Array Value) (below : List Frame) (meth : Method) (c : Code) (D : va_G) (cs : ClassId × ClassId × ClassId) (A : Nat → Prop) (h0 hf : mm_H) (Q : State → Prop) (o : mm_O) (x : mm_I) : Prop :=
  ∀ (q : Nat × Nat) (k pc : Nat) (h : mm_H) (H : Heap) (locs : List Loc) (cells slots : Nat) (ls : Array Slot) (st : List Value), x.2.2.1.2.1.find? (fun q => Nat.beq q.1 pc) = some q → decode x.1.2.1 pc = .ok (.new k, 3) → Nat.ble (mm_wt st) 8 = true → o = .inr q.2 → hf = (h.1, (none, (h.2.2.1 + 1, h.2.2.2 + 6))) → mm_Iv s D cs A h0 h H locs cells slots → ls.size = x.1.2.2.1 →
    W p l e R s m args below meth c H locs cells slots Q (F0 m pc ls st)
def mm_HR (p : Program) (l : Launch) (e : Env) (R : Room) (s : State) (m : MethodId) (args : Array Value) (below : List Frame) (meth : Method) (c : Code) (D : va_G) (cs : ClassId × ClassId × ClassId) (A : Nat → Prop) (h0 hf : mm_H) (Q : State → Prop) (o : mm_O) (x : mm_I) : Prop :=
  ∀ (v : Option Value) (pc : Nat) (H : Heap) (locs : List Loc) (cells slots : Nat) (ls : Array Slot), o = .inl v → ((v = none ∧ x.2.1.2.2 = 0 ∧ decode x.1.2.1 pc = .ok (.return_, 1)) ∨ ∃ n, v = some (.int n) ∧ decode x.1.2.1 pc = .ok (.ireturn, 1) ∧ (x.2.1.2.2 = 1 ∨ (x.2.1.2.2 = 2 ∧ (n = 0 ∨ n = 1)))) → mm_Iv s D cs A h0 hf H locs cells slots →
    W p l e R s m args below meth c H locs cells slots Q (F0 m pc ls v.toList)
theorem mm_q_new (C : mm_cx p R s m args meth c D cs A h0 hf E x) (HN : mm_HN p l e R s m args below meth c D cs A h0 hf Q o x) (hgo : ∀ t L' st' h', go t L' st' h' = some (o, hf) → mm_G p l e R s m args below meth c D cs A h0 hf Q x.1.2.2.1 t L' st' h')
    (hd : decode x.1.2.1 pc = .ok (.new k, len)) (hl : mm_lk (.new k) = len) (hr : mm_stp E cl x go (.new k) len pc L st h = some (o, hf)) : mm_G p l e R s m args below meth c D cs A h0 hf Q x.1.2.2.1 pc L st h := by
  have hl : 3 = len := hl
  subst hl
  rcases mm_op_of (show mm_op (x.2.2.1.2.1.find? (fun q => Nat.beq q.1 pc)) (fun q => bif Nat.ble (mm_wt st) 8 then some (.inr q.2, (h.1, (none, (h.2.2.1 + 1, h.2.2.2 + 6)))) else none)
      (mm_op (mm_fd mm_nw x.2.1.1 k) (fun q => mm_al h (.inl (q.2.1, mm_new.getD q.2.1 [])) (mm_new.getD q.2.1 []).length (fun a h' => go (pc + 3) L (.ref a :: st) h')) none) = some (o, hf) from hr) with ⟨q, hq, hr1⟩ | ⟨-, hr1⟩
  · obtain ⟨hw, hr2⟩ := mm_bif_of hr1
    have ho : o = .inr q.2 := (congrArg Prod.fst (Option.some.inj hr2)).symm
    have hhf : hf = (h.1, (none, (h.2.2.1 + 1, h.2.2.2 + 6))) := (congrArg Prod.snd (Option.some.inj hr2)).symm
    refine ⟨by rw [hhf]; exact ⟨Nat.le_succ _, Nat.le_add_right _ _⟩, fun H locs cells slots ls hI hL => ?_⟩
    exact HN q k pc h H locs cells slots ls st hq hd hw ho hhf hI hL.1
  · rcases mm_op_of hr1 with ⟨q, hq, hr2⟩ | ⟨-, hr2⟩
    · exact mm_q_newO C hgo hd hq hr2
    · cases hr2
theorem mm_q_ireturn (HR : mm_HR p l e R s m args below meth c D cs A h0 hf Q o x)
    (hd : decode x.1.2.1 pc = .ok (.ireturn, len)) (hl : mm_lk .ireturn = len) (hr : mm_stp E cl x go .ireturn len pc L st h = some (o, hf)) : mm_G p l e R s m args below meth c D cs A h0 hf Q x.1.2.2.1 pc L st h := by
  have hl : 1 = len := hl
  subst hl
  obtain ⟨v, rfl, hr1⟩ := mm_e1_of (show mm_e1 st (fun v => bif Nat.beq x.2.1.2.2 1 then some (.inl (some (.int v)), h) else bif Nat.beq x.2.1.2.2 2 then mm_bz v (some (.inl (some (.int v)), h)) else none) = some (o, hf) from hr)
  have key : (some ((.inl (some (.int v)) : mm_O), h) : mm_R) = some (o, hf) → (x.2.1.2.2 = 1 ∨ (x.2.1.2.2 = 2 ∧ (v = 0 ∨ v = 1))) → mm_G p l e R s m args below meth c D cs A h0 hf Q x.1.2.2.1 pc L [.int v] h := by
    intro hz hk
    cases hz
    exact ⟨⟨Nat.le_refl _, Nat.le_refl _⟩, fun H locs cells slots ls hI hL => HR (some (.int v)) pc H locs cells slots ls rfl (Or.inr ⟨v, rfl, hd, hk⟩) hI⟩
  cases hy : Nat.beq x.2.1.2.2 1 with
  | true =>
    rw [hy, cond_true] at hr1
    exact key hr1 (Or.inl (Nat.eq_of_beq_eq_true hy))
  | false =>
    rw [hy, cond_false] at hr1
    obtain ⟨hz, hr2⟩ := mm_bif_of hr1
    rcases mm_br_of (show mm_br (v = 0 ∨ v = 1) _ none = _ from hr2) with ⟨hv, hr3⟩ | ⟨-, hr3⟩
    · exact key hr3 (Or.inr ⟨Nat.eq_of_beq_eq_true hz, hv⟩)
    · cases hr3
theorem mm_q_return (HR : mm_HR p l e R s m args below meth c D cs A h0 hf Q o x)
    (hd : decode x.1.2.1 pc = .ok (.return_, len)) (hl : mm_lk .return_ = len) (hr : mm_stp E cl x go .return_ len pc L st h = some (o, hf)) : mm_G p l e R s m args below meth c D cs A h0 hf Q x.1.2.2.1 pc L st h := by
  have hl : 1 = len := hl
  subst hl
  obtain ⟨rfl, hr1⟩ := mm_e0_of (show mm_e0 st (bif Nat.beq x.2.1.2.2 0 then some (.inl none, h) else none) = some (o, hf) from hr)
  obtain ⟨hz, hr2⟩ := mm_bif_of hr1
  have hz := Nat.eq_of_beq_eq_true hz
  cases hr2
  exact ⟨⟨Nat.le_refl _, Nat.le_refl _⟩, fun H locs cells slots ls hI hL => HR none pc H locs cells slots ls rfl (Or.inl ⟨rfl, hz, hd⟩) hI⟩
set_option maxHeartbeats 4000000 in
/-- ONE STEP -/
theorem mm_snd_stp (C : mm_cx p R s m args meth c D cs A h0 hf E x) (HC : mm_Cl l E D cs cl d) (hRm : d + 13 ≤ R.frames ∧ 60 * d + 240 ≤ R.locals) (HT : mm_HT p l e R s m args below meth c D cs A h0 hf Q o x) (HS : mm_ST p l e R s m args below meth c D cs A h0 hf Q E x) (HN : mm_HN p l e R s m args below meth c D cs A h0 hf Q o x) (HR : mm_HR p l e R s m args below meth c D cs A h0 hf Q o x)
    (hgo : ∀ t L' st' h', go t L' st' h' = some (o, hf) → mm_G p l e R s m args below meth c D cs A h0 hf Q x.1.2.2.1 t L' st' h') {i : Instr}
    (hin : ∃ q0, mm_ins x pc = some (q0, i, len)) (hd : decode x.1.2.1 pc = .ok (i, len)) (hl : mm_lk i = 0 ∨ mm_lk i = len) (hk : mm_iok x i = true) (hr : mm_stp E cl x go i len pc L st h = some (o, hf)) : mm_G p l e R s m args below meth c D cs A h0 hf Q x.1.2.2.1 pc L st h := by
  have hx := C.1
  have hb := C.2.1
  have hl2 : mm_lk i ≠ 0 → mm_lk i = len := fun q => hl.resolve_left q
  cases i with
  | iconst v => exact mm_q_iconst hx hb hgo hd (hl2 (show ¬ (1 : Nat) = 0 by decide)) hr
  | bipush v => exact mm_q_bipush hx hb hgo hd (hl2 (show ¬ (2 : Nat) = 0 by decide)) hr
  | sipush v => exact mm_q_sipush hx hb hgo hd (hl2 (show ¬ (3 : Nat) = 0 by decide)) hr
  | lconst v => exact mm_q_lconst hx hb hgo hd (hl2 (show ¬ (1 : Nat) = 0 by decide)) hr
  | ldc k => exact mm_q_ldc C hgo hd (hl2 (show ¬ (2 : Nat) = 0 by decide)) hr
  | ldc_w k => exact mm_q_ldc_w C hgo hd (hl2 (show ¬ (3 : Nat) = 0 by decide)) hr
  | ldc2_w k => exact mm_q_ldc2_w C hgo hd (hl2 (show ¬ (3 : Nat) = 0 by decide)) hr
  | iload_n k => exact mm_q_iload_n hx hb hgo hd (hl2 (show ¬ (1 : Nat) = 0 by decide)) hr
  | iload k => exact mm_q_iload hx hb hgo hd (hl2 (show ¬ (2 : Nat) = 0 by decide)) hr
  | lload_n k => exact mm_q_lload_n hx hb hgo hd (hl2 (show ¬ (1 : Nat) = 0 by decide)) hr
  | lload k => exact mm_q_lload hx hb hgo hd (hl2 (show ¬ (2 : Nat) = 0 by decide)) hr
  | aload_n k => exact mm_q_aload_n hx hb hgo hd (hl2 (show ¬ (1 : Nat) = 0 by decide)) hr
  | aload k => exact mm_q_aload hx hb hgo hd (hl2 (show ¬ (2 : Nat) = 0 by decide)) hr
  | istore_n k => exact mm_q_istore_n hx hb hgo hd (hl2 (show ¬ (1 : Nat) = 0 by decide)) hr
  | istore k => exact mm_q_istore hx hb hgo hd (hl2 (show ¬ (2 : Nat) = 0 by decide)) hr
  | astore_n k => exact mm_q_astore_n hx hb hgo hd (hl2 (show ¬ (1 : Nat) = 0 by decide)) hr
  | astore k => exact mm_q_astore hx hb hgo hd (hl2 (show ¬ (2 : Nat) = 0 by decide)) hr
  | lstore_n k => exact mm_q_lstore_n hx hb hgo hd (hl2 (show ¬ (1 : Nat) = 0 by decide)) hr
  | lstore k => exact mm_q_lstore hx hb hgo hd (hl2 (show ¬ (2 : Nat) = 0 by decide)) hr
  | iinc k n => exact mm_q_iinc hx hb hgo hd (hl2 (show ¬ (3 : Nat) = 0 by decide)) hr
  | iadd => exact mm_q_iadd hx hb hgo hd (hl2 (show ¬ (1 : Nat) = 0 by decide)) hr
  | isub => exact mm_q_isub hx hb hgo hd (hl2 (show ¬ (1 : Nat) = 0 by decide)) hr
  | imul => exact mm_q_imul hx hb hgo hd (hl2 (show ¬ (1 : Nat) = 0 by decide)) hr
  | iand => exact mm_q_iand hx hb hgo hd (hl2 (show ¬ (1 : Nat) = 0 by decide)) hr
  | ior => exact mm_q_ior hx hb hgo hd (hl2 (show ¬ (1 : Nat) = 0 by decide)) hr
  | ixor => exact mm_q_ixor hx hb hgo hd (hl2 (show ¬ (1 : Nat) = 0 by decide)) hr
  | ishl => exact mm_q_ishl hx hb hgo hd (hl2 (show ¬ (1 : Nat) = 0 by decide)) hr
  | ishr => exact mm_q_ishr hx hb hgo hd (hl2 (show ¬ (1 : Nat) = 0 by decide)) hr
  | iushr => exact mm_q_iushr hx hb hgo hd (hl2 (show ¬ (1 : Nat) = 0 by decide)) hr
  | idiv => exact mm_q_idiv hx hb hgo hd (hl2 (show ¬ (1 : Nat) = 0 by decide)) hr
  | irem => exact mm_q_irem hx hb hgo hd (hl2 (show ¬ (1 : Nat) = 0 by decide)) hr
  | ineg => exact mm_q_ineg hx hb hgo hd (hl2 (show ¬ (1 : Nat) = 0 by decide)) hr
  | ladd => exact mm_q_ladd hx hb hgo hd (hl2 (show ¬ (1 : Nat) = 0 by decide)) hr
  | lmul => exact mm_q_lmul hx hb hgo hd (hl2 (show ¬ (1 : Nat) = 0 by decide)) hr
  | land => exact mm_q_land hx hb hgo hd (hl2 (show ¬ (1 : Nat) = 0 by decide)) hr
  | ldiv => exact mm_q_ldiv hx hb hgo hd (hl2 (show ¬ (1 : Nat) = 0 by decide)) hr
  | lshl => exact mm_q_lshl hx hb hgo hd (hl2 (show ¬ (1 : Nat) = 0 by decide)) hr
  | lshr => exact mm_q_lshr hx hb hgo hd (hl2 (show ¬ (1 : Nat) = 0 by decide)) hr
  | lcmp => exact mm_q_lcmp hx hb hgo hd (hl2 (show ¬ (1 : Nat) = 0 by decide)) hr
  | i2l => exact mm_q_i2l hx hb hgo hd (hl2 (show ¬ (1 : Nat) = 0 by decide)) hr
  | l2i => exact mm_q_l2i hx hb hgo hd (hl2 (show ¬ (1 : Nat) = 0 by decide)) hr
  | dup => exact mm_q_dup hx hb hgo hd (hl2 (show ¬ (1 : Nat) = 0 by decide)) hr
  | dup2 => exact mm_q_dup2 hx hb hgo hd (hl2 (show ¬ (1 : Nat) = 0 by decide)) hr
  | pop => exact mm_q_pop hx hb hgo hd (hl2 (show ¬ (1 : Nat) = 0 by decide)) hr
  | goto off => exact mm_q_goto hx hb hgo hd (hl2 (show ¬ (3 : Nat) = 0 by decide)) hr
  | if_icmp cd off => exact mm_q_if_icmp hx hb hgo hd (hl2 (show ¬ (3 : Nat) = 0 by decide)) hr
  | ifCond cd off => exact mm_q_ifCond hx hb hgo hd (hl2 (show ¬ (3 : Nat) = 0 by decide)) hr
  | tableswitch df lo hi offs => exact mm_q_tableswitch hx hb hgo hd hr
  | lookupswitch df ps => exact mm_q_lookupswitch hx hb hgo hd hr
  | getfield k => exact mm_q_getfield C hgo hd (hl2 (show ¬ (3 : Nat) = 0 by decide)) hr
  | putfield k => exact mm_q_putfield C hgo hd (hl2 (show ¬ (3 : Nat) = 0 by decide)) hr
  | getstatic k => exact mm_q_getstatic C hgo hd (hl2 (show ¬ (3 : Nat) = 0 by decide)) hr
  | iaload => exact mm_q_iaload C hgo hd (hl2 (show ¬ (1 : Nat) = 0 by decide)) hr
  | iastore => exact mm_q_iastore C hgo hd (hl2 (show ¬ (1 : Nat) = 0 by decide)) hr
  | laload => exact mm_q_laload C hgo hd (hl2 (show ¬ (1 : Nat) = 0 by decide)) hr
  | lastore => exact mm_q_lastore C hgo hd (hl2 (show ¬ (1 : Nat) = 0 by decide)) hr
  | aaload => exact mm_q_aaload C hgo hd (hl2 (show ¬ (1 : Nat) = 0 by decide)) hr
  | aastore => exact mm_q_aastore C hgo hd (hl2 (show ¬ (1 : Nat) = 0 by decide)) hr
  | arraylength => exact mm_q_arraylength C hgo hd (hl2 (show ¬ (1 : Nat) = 0 by decide)) hr
  | newarray ty =>
    cases ty with
    | int => exact mm_q_newI C hgo hd (hl2 (show ¬ (2 : Nat) = 0 by decide)) hr
    | long => exact mm_q_newJ C hgo hd (hl2 (show ¬ (2 : Nat) = 0 by decide)) hr
    | _ => exact absurd hr (fun q => by cases q)
  | anewarray k => exact mm_q_anewarray C hgo hd (hl2 (show ¬ (3 : Nat) = 0 by decide)) hr
  | new k => exact mm_q_new C HN hgo hd (hl2 (show ¬ (3 : Nat) = 0 by decide)) hr
  | invokevirtual k => exact mm_q_invokevirtual C HC hRm HT HS hgo hin hd (hl2 (show ¬ (3 : Nat) = 0 by decide)) hk hr
  | invokestatic k => exact mm_q_invokestatic C HC hRm HT hgo hin hd (hl2 (show ¬ (3 : Nat) = 0 by decide)) hk hr
  | invokespecial k => exact mm_q_invokespecial C HC hRm HT hgo hin hd (hl2 (show ¬ (3 : Nat) = 0 by decide)) hk hr
  | ireturn => exact mm_q_ireturn HR hd (hl2 (show ¬ (1 : Nat) = 0 by decide)) hr
  | return_ => exact mm_q_return HR hd (hl2 (show ¬ (1 : Nat) = 0 by decide)) hr
  | _ => exact absurd hr (fun q => by cases q)
theorem mm_ins_of {q : Nat × Instr × Nat} (hc : mm_dc x = true) (h : mm_ins x pc = some q) : decode x.1.2.1 pc = .ok (q.2.1, q.2.2) ∧ (mm_lk q.2.1 = 0 ∨ mm_lk q.2.1 = q.2.2) ∧ mm_iok x q.2.1 = true := by
  unfold mm_ins at h
  have h1 := List.mem_of_find?_eq_some h
  have h2 := List.find?_some (p := fun q : Nat × Instr × Nat => Nat.beq q.1 pc) h
  have h2 := Nat.eq_of_beq_eq_true h2
  have hne : x.2.2.2[pc / 32]? = some (x.2.2.2.getD (pc / 32) []) := by
    rw [List.getD_eq_getElem?_getD]
    cases hz : x.2.2.2[pc / 32]? with
    | none => rw [List.getD_eq_getElem?_getD, hz] at h1; exact absurd h1 List.not_mem_nil
    | some z => rfl
  have h3 := List.all_eq_true.mp (List.all_eq_true.mp hc _ (List.mem_of_getElem? hne)) q h1
  rw [Bool.and_eq_true, Bool.and_eq_true, Bool.or_eq_true] at h3
  obtain ⟨a, b, c⟩ := h3
  have a := of_decide_eq_true a
  rw [h2] at a
  exact ⟨a, b.elim (fun z => Or.inl (Nat.eq_of_beq_eq_true z)) (fun z => Or.inr (Nat.eq_of_beq_eq_true z)), c⟩
/-- FROM A PLACE TO THE NEXT CUTS -/
theorem mm_snd_blk (hc : mm_dc x = true) (C : mm_cx p R s m args meth c D cs A h0 hf E x) (HC : mm_Cl l E D cs cl d) (hRm : d + 13 ≤ R.frames ∧ 60 * d + 240 ≤ R.locals) (HT : mm_HT p l e R s m args below meth c D cs A h0 hf Q o x) (HS : mm_ST p l e R s m args below meth c D cs A h0 hf Q E x) (HN : mm_HN p l e R s m args below meth c D cs A h0 hf Q o x) (HR : mm_HR p l e R s m args below meth c D cs A h0 hf Q o x)
    {kn : mm_K} (hkn : ∀ t L' st' h', kn t L' st' h' = some (o, hf) → mm_G p l e R s m args below meth c D cs A h0 hf Q x.1.2.2.1 t L' st' h') : ∀ (n pc : Nat) (L : mm_L) (st : List Value) (h : mm_H), mm_blk E cl kn x n pc L st h = some (o, hf) → mm_G p l e R s m args below meth c D cs A h0 hf Q x.1.2.2.1 pc L st h := by
  intro n
  induction n with
  | zero => intro pc L st h hr; cases hr
  | succ n ih =>
    intro pc L st h hr
    unfold mm_blk at hr
    split at hr
    · next q0 i len hi =>
      obtain ⟨a, b, c2⟩ := mm_ins_of hc hi
      refine mm_snd_stp C HC hRm HT HS HN HR (fun t L' st' h' hz => ?_) ⟨q0, hi⟩ a b c2 hr
      cases hcut : mm_cut x t with
      | true => rw [hcut] at hz; exact hkn t L' st' h' hz
      | false => rw [hcut] at hz; exact ih t L' st' h' hz
    · cases hr
/-- FROM CUT TO CUT -/
theorem mm_snd_run (hc : mm_dc x = true) (C : mm_cx p R s m args meth c D cs A h0 hf E x) (HC : mm_Cl l E D cs cl d) (hRm : d + 13 ≤ R.frames ∧ 60 * d + 240 ≤ R.locals) (HT : mm_HT p l e R s m args below meth c D cs A h0 hf Q o x) (HS : mm_ST p l e R s m args below meth c D cs A h0 hf Q E x) (HN : mm_HN p l e R s m args below meth c D cs A h0 hf Q o x) (HR : mm_HR p l e R s m args below meth c D cs A h0 hf Q o x) : ∀ (n pc : Nat) (L : mm_L) (st : List Value) (h : mm_H), mm_run E cl x n pc L st h = some (o, hf) → mm_G p l e R s m args below meth c D cs A h0 hf Q x.1.2.2.1 pc L st h := by
  intro n
  induction n with
  | zero => intro pc L st h hr; cases hr
  | succ n ih =>
    intro pc L st h hr
    exact mm_snd_blk hc C HC hRm HT HS HN HR ih 3000 pc L st h hr
end MMK
