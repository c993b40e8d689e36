/-! SOUNDNESS, tenth part: the instructions of calls, what the JDK does, returns, throws -/
theorem mm_cI_of {hs : List (Nat × Int32)} {r : mm_R} {κ : Int32 → mm_H → mm_R} {z : mm_O × mm_H} (h : mm_cI hs r κ = some z) : (∃ v h', r = some (.inl (some (.int v)), h') ∧ κ v h' = some z) ∨ (∃ y h', r = some (.inr y, h') ∧ mm_th hs y h' = some z) := by
  unfold mm_cI at h
  split at h
  · exact Or.inl ⟨_, _, rfl, h⟩
  · exact Or.inr ⟨_, _, rfl, h⟩
  · cases h
theorem mm_cV_of {hs : List (Nat × Int32)} {r : mm_R} {κ : mm_H → mm_R} {z : mm_O × mm_H} (h : mm_cV hs r κ = some z) : (∃ h', r = some (.inl none, h') ∧ κ h' = some z) ∨ (∃ y h', r = some (.inr y, h') ∧ mm_th hs y h' = some z) := by
  unfold mm_cV at h
  split at h
  · exact Or.inl ⟨_, rfl, h⟩
  · exact Or.inr ⟨_, _, rfl, h⟩
  · cases h
theorem mm_th_hf {hs : List (Nat × Int32)} {y : Nat} {h' : mm_H} {o : mm_O} {hf : mm_H} (h : mm_th hs y h' = some (o, hf)) : hf = h' := by
  unfold mm_th at h
  split at h
  · cases h; rfl
  · have h := (mm_bif_of h).2
    cases h; rfl
theorem mm_cp_of {h : mm_H} {a : Nat} {sp : Int32} {d : Nat} {dp n : Int32} {κ : mm_H → mm_R} {z : mm_O × mm_H} (e : mm_cp h a sp d dp n κ = some z) : ∃ n0 f n1 g, h.1 a = some (.inr (.inl (n0, f))) ∧ h.1 d = some (.inr (.inl (n1, g))) ∧ ¬ sp < 0 ∧ ¬ dp < 0 ∧ ¬ n < 0 ∧ sp.toNatClampNeg + n.toNatClampNeg ≤ n0 ∧ dp.toNatClampNeg + n.toNatClampNeg ≤ n1 ∧ κ (mm_up h d (.inr (.inl (n1, va_cpy f g sp.toNatClampNeg dp.toNatClampNeg n.toNatClampNeg)))) = some z := by
  unfold mm_cp at e
  split at e
  · next n0 f h1 =>
    split at e
    · next n1 g h2 =>
      obtain ⟨hn, e2⟩ := mm_if_of e
      exact ⟨n0, f, n1, g, h1, h2, fun q => hn (Or.inl q), fun q => hn (Or.inr (Or.inl q)), fun q => hn (Or.inr (Or.inr (Or.inl q))), Nat.not_lt.mp fun q => hn (Or.inr (Or.inr (Or.inr (Or.inl q)))), Nat.not_lt.mp fun q => hn (Or.inr (Or.inr (Or.inr (Or.inr q)))), e2⟩
    · cases e
  · cases e
section MMJ
variable {p : Program} {l : Launch} {e : Env} {R : Room} {s : State} {m : MethodId} {args : Array Value} {below : List Frame} {meth : Method} {c : Code} {D : va_G} {cs : ClassId × ClassId × ClassId} {A A' : Nat → Prop} {h0 hf h h' : mm_H} {Q : State → Prop} {o o' : mm_O} {E : mm_E} {cl : mm_F} {x : mm_I} {H H1 : Heap} {locs locs1 : List Loc} {cells slots nL pc d j k : Nat} {L : mm_L} {st rest as : List Value} {ls : Array Slot} {g : JFrame} {go : mm_K} {len : Nat} {U : State}
/-- what is owed where a call throws: the method's own answer to it -/
def mm_HT (p : Program) (l : Launch) (e : Env) (R : Room) (s : State) (m : MethodId) (args : Array Value) (below : List Frame) (meth : Method) (c : Code) (D : va_G) (cs : ClassId × ClassId × ClassId) (A : Nat → Prop) (h0 hf : mm_H) (Q : State → Prop) (o : mm_O) (x : mm_I) : Prop :=
  ∀ (y : Nat) (i : Instr) (len pc : Nat) (H : Heap) (locs : List Loc) (cells slots : Nat) (ls : Array Slot) (rest : List Value) (q : Addr) (ce : Cell), mm_th x.2.2.1.2.2 y hf = some (o, hf) → (∃ q0, mm_ins x pc = some (q0, i, len)) → (∃ k, i = .invokevirtual k ∨ i = .invokestatic k ∨ i = .invokespecial k) → mm_Iv s D cs A h0 hf H locs cells slots → (∃ L, mm_lr ls x.1.2.2.1 L) → H[q]? = some ce → ce.vm = .none → s.vm.findClass (mm_xn y) = some ce.cls →
    vx_W p l e R s m args below meth c H locs cells slots Q (F0 m pc ls rest) q
/-- a call of one of our methods -/
theorem mm_callG (C : mm_cx p R s m args meth c D cs A h0 hf E x) (HC : mm_Cl l E D cs cl d) (hRm : d + 13 ≤ R.frames ∧ 60 * d + 240 ≤ R.locals) (HT : mm_HT p l e R s m args below meth c D cs A h0 hf Q o x) (hgo : ∀ t L' st' h', go t L' st' h' = some (o, hf) → mm_G p l e R s m args below meth c D cs A h0 hf Q x.1.2.2.1 t L' st' h') (hin : ∃ q0 i, mm_ins x pc = some (q0, i, 3) ∧ ∃ k, i = .invokevirtual k ∨ i = .invokestatic k ∨ i = .invokespecial k) (hj : j < 287) (hj2 : mm_bad j = false)
    (hik : (mm_sta j = true ∧ decode x.1.2.1 pc = .ok (.invokestatic k, 3) ∧ (Cond.methodLink (mm_cn x.2.1.1) k (mm_x j).1.1 ∈ mm_tb ∨ ((mm_hh j).isEmpty = true ∧ va_Nw (.methodLinkNest (mm_cn x.2.1.1) k (mm_x j).1.1 "PromisedStock") s))) ∨ (mm_sta j = false ∧ mm_ctr j = false ∧ decode x.1.2.1 pc = .ok (.invokevirtual k, 3) ∧ Cond.methodLink (mm_cn x.2.1.1) k (mm_x j).1.1 ∈ mm_tb)
      ∨ (mm_sta j = false ∧ mm_ctr j = true ∧ (mm_x j).2.1.2.2 = 0 ∧ decode x.1.2.1 pc = .ok (.invokespecial k, 3) ∧ (Cond.methodLink (mm_cn x.2.1.1) k (mm_x j).1.1 ∈ mm_tb ∨ va_Nw (.methodLinkNest (mm_cn x.2.1.1) k (mm_x j).1.1 "PromisedStock") s)))
    (hr : mm_op (mm_pop (mm_x j).2.1.2.1 [] st) (fun q => bif Nat.ble (mm_wt q.2) 8 then
        (bif Nat.beq (mm_x j).2.1.2.2 0 then mm_cV x.2.2.1.2.2 (cl j q.1 h) (fun h' => go (pc + 3) L q.2 h')
         else mm_cI x.2.2.1.2.2 (cl j q.1 h) (fun v h' => go (pc + 3) L (.int v :: q.2) h'))
      else none) none = some (o, hf)) : mm_G p l e R s m args below meth c D cs A h0 hf Q x.1.2.2.1 pc L st h := by
  rcases mm_op_of hr with ⟨q, hpop, hr⟩ | ⟨-, hr⟩
  · obtain ⟨as, rest⟩ := q
    obtain ⟨hw, hr⟩ := mm_bif_of hr
    have hA := C.2.2.2.2.2.2.2.2.1
    obtain ⟨q0, i, hin1, hii⟩ := hin
    have ret : ∀ (v : Option Value) (h' : mm_H), cl j as h = some (.inl v, h') → go (pc + 3) L (v.toList ++ rest) h' = some (o, hf) → mm_G p l e R s m args below meth c D cs A h0 hf Q x.1.2.2.1 pc L st h := by
      intro v h' hcl hr
      have g := hgo _ _ _ _ hr
      obtain ⟨hm, -, -⟩ := HC j as h h' _ hj hj2 hcl
      refine ⟨⟨Nat.le_trans hm.1 g.1.1, Nat.le_trans hm.2 g.1.2⟩, fun H locs cells slots ls hI hL => ?_⟩
      exact mm_retW hA hm (mm_runs C HC hRm hj hj2 hcl g.1 hI hL hpop hw hik) hI hL g
    have thr : ∀ (y : Nat) (h' : mm_H), cl j as h = some (.inr y, h') → mm_th x.2.2.1.2.2 y h' = some (o, hf) → mm_G p l e R s m args below meth c D cs A h0 hf Q x.1.2.2.1 pc L st h := by
      intro y h' hcl hr
      have ef := mm_th_hf hr
      subst ef
      obtain ⟨hm, -, -⟩ := HC j as h hf _ hj hj2 hcl
      refine ⟨hm, fun H locs cells slots ls hI hL => ?_⟩
      exact mm_thrW hA hm (mm_runs C HC hRm hj hj2 hcl ⟨Nat.le_refl _, Nat.le_refl _⟩ hI hL hpop hw hik) hI (fun H1 locs1 q ce hI1 hce hcv hcl => HT y i 3 pc H1 locs1 _ _ ls rest q ce hr ⟨q0, hin1⟩ hii hI1 ⟨L, hL⟩ hce hcv hcl)
    cases hv : Nat.beq (mm_x j).2.1.2.2 0 with
    | true =>
      rw [hv, cond_true] at hr
      rcases mm_cV_of hr with ⟨h', e1, e2⟩ | ⟨y, h', e1, e2⟩
      · exact ret none h' e1 e2
      · exact thr y h' e1 e2
    | false =>
      rw [hv, cond_false] at hr
      rcases mm_cI_of hr with ⟨v, h', e1, e2⟩ | ⟨y, h', e1, e2⟩
      · exact ret (some (.int v)) h' e1 e2
      · exact thr y h' e1 e2
  · cases hr
theorem mm_q_invokespecial (C : mm_cx p R s m args meth c D cs A h0 hf E x) (HC : mm_Cl l E D cs cl d) (hRm : d + 13 ≤ R.frames ∧ 60 * d + 240 ≤ R.locals) (HT : mm_HT p l e R s m args below meth c D cs A h0 hf Q o x) (hgo : ∀ t L' st' h', go t L' st' h' = some (o, hf) → mm_G p l e R s m args below meth c D cs A h0 hf Q x.1.2.2.1 t L' st' h')
    (hin : ∃ q0, mm_ins x pc = some (q0, .invokespecial k, len)) (hd : decode x.1.2.1 pc = .ok (.invokespecial k, len)) (hl : mm_lk (.invokespecial k) = len) (hk : mm_iok x (.invokespecial k) = true) (hr : mm_stp E cl x go (.invokespecial k) len pc L st h = some (o, hf)) : mm_G p l e R s m args below meth c D cs A h0 hf Q x.1.2.2.1 pc L st h := by
  have hl : 3 = len := hl
  subst hl
  rcases mm_op_of (show mm_op (mm_fd mm_ml x.2.1.1 k) (fun q => mm_inv E cl x q.2.1 3 pc go L st h) none = some (o, hf) from hr) with ⟨q, hq, hr1⟩ | ⟨-, hr1⟩
  · have ho := C.2.2.2.2.2.2.1
    obtain ⟨m1, m2, m3⟩ := mm_ml_at ho hq
    have hk : ((Nat.beq q.2.1 1000 && Nat.beq q.2.2.2 0) || (Nat.ble (q.2.1 + 1) 1000 && (!(mm_sta q.2.1) && (mm_ctr q.2.1 && Nat.beq (mm_x q.2.1).2.1.2.2 0)))) = true := by
      have hk2 : (mm_fd mm_ml x.2.1.1 k).elim true (fun q => (Nat.beq q.2.1 1000 && Nat.beq q.2.2.2 0) || (Nat.ble (q.2.1 + 1) 1000 && (!(mm_sta q.2.1) && (mm_ctr q.2.1 && Nat.beq (mm_x q.2.1).2.1.2.2 0)))) = true := hk
      rw [hq] at hk2
      exact hk2
    rw [Bool.or_eq_true] at hk
    rcases hk with hk | hk
    · rw [Bool.and_eq_true] at hk
      have e1 := Nat.eq_of_beq_eq_true hk.1
      have e2 := Nat.eq_of_beq_eq_true hk.2
      have m1 := m1 (by omega)
      rw [e1] at hr1 m1
      obtain ⟨a, r, rfl, hr2⟩ := mm_r1_of (show mm_r1 st (fun _ r => bif Nat.ble (mm_wt r) 8 then go (pc + 3) L r h else none) = some (o, hf) from hr1)
      obtain ⟨hw, hr3⟩ := mm_bif_of hr2
      have g := hgo _ _ _ _ hr3
      obtain ⟨hx, hb, hml, hown, hts, -, -, hK, hA, hR, hR2, -⟩ := C
      refine ⟨g.1, fun H locs cells slots ls hI hL => ?_⟩
      have w1 : Cond.instanceMethod objectInit ∈ mm_tb := mm_tb_of (List.mem_of_getElem? (i := 30) (by decide +kernel)) rfl
      have w2 : Cond.code objectInit ⟨#[0xb1]⟩ 1 none ∈ mm_tb := mm_tb_of (List.mem_of_getElem? (i := 31) (by decide +kernel)) rfl
      exact W.objInit hx hb hown (hts _ m1) (hts _ w1) (hts _ w2) rfl (by rw [hml]; exact hL.1) rfl hd (by omega) (by have := mm_lw8 (m := m) (pc := pc) (ls := ls) (st := .ref a :: r) hw; omega) (g.2 H locs cells slots ls hI hL)
    · rw [Bool.and_eq_true, Bool.and_eq_true, Bool.and_eq_true] at hk
      have e1 := Nat.le_of_ble_eq_true hk.1
      obtain ⟨j1, j2⟩ := m3 (by omega)
      have hyn : mm_yn q.2.1 = (mm_x q.2.1).1.1 := by
        unfold mm_yn
        have z : ∀ n, 1000 ≤ n → Nat.beq q.2.1 n = false := fun n hn => by
          cases hz : Nat.beq q.2.1 n with
          | true => have := Nat.eq_of_beq_eq_true hz; omega
          | false => rfl
        rw [z 1000 (by omega), z 1001 (by omega), z 1002 (by omega), z 1003 (by omega), z 1004 (by omega), z 1005 (by omega)]
        rfl
      have hr2 : mm_op (mm_pop (mm_x q.2.1).2.1.2.1 [] st) (fun q' => bif Nat.ble (mm_wt q'.2) 8 then
        (bif Nat.beq (mm_x q.2.1).2.1.2.2 0 then mm_cV x.2.2.1.2.2 (cl q.2.1 q'.1 h) (fun h' => go (pc + 3) L q'.2 h')
         else mm_cI x.2.2.1.2.2 (cl q.2.1 q'.1 h) (fun v h' => go (pc + 3) L (.int v :: q'.2) h'))
        else none) none = some (o, hf) := by
        unfold mm_inv at hr1
        rw [show Nat.ble 1000 q.2.1 = false from by cases hz : Nat.ble 1000 q.2.1 with | true => exact absurd (Nat.le_of_ble_eq_true hz) (by omega) | false => rfl, cond_false] at hr1
        exact hr1
      obtain ⟨q0, hin⟩ := hin
      refine mm_callG (k := k) C HC hRm HT hgo ⟨q0, _, hin, k, Or.inr (Or.inr rfl)⟩ j1 j2 (Or.inr (Or.inr ⟨by simpa using hk.2.1, hk.2.2.1, Nat.eq_of_beq_eq_true hk.2.2.2, hd, ?_⟩)) hr2
      by_cases hn : q.2.2.2 = 1
      · have m2 := m2 hn
        rw [hyn] at m2
        have hRO := C.2.2.2.2.2.2.2.2.2.2.2
        have hq2 := List.all_eq_true.mp (List.all_eq_true.mp mm_ml_ok _ (List.mem_range.mpr ho)) q (mm_fd_of hq).1
        have ht1 : Nat.beq q.2.2.2 1 = true := by rw [hn]; rfl
        rw [ht1, cond_true, Bool.and_eq_true, Bool.and_eq_true] at hq2
        have h3 := hRO.2.2.2.2.2.1 (2, x.2.1.1, q.1, q.2.1) (mm_has_mem hq2.1.1) rfl
        have h4 : va_Nw (.methodLinkNest (mm_cn x.2.1.1) q.1 (mm_yn q.2.1) "PromisedStock") s := h3
        rw [hyn, (mm_fd_of hq).2] at h4
        exact Or.inr h4
      · have m1 := m1 hn
        rw [hyn] at m1
        exact Or.inl m1
  · cases hr1
theorem mm_q_invokestatic (C : mm_cx p R s m args meth c D cs A h0 hf E x) (HC : mm_Cl l E D cs cl d) (hRm : d + 13 ≤ R.frames ∧ 60 * d + 240 ≤ R.locals) (HT : mm_HT p l e R s m args below meth c D cs A h0 hf Q o x) (hgo : ∀ t L' st' h', go t L' st' h' = some (o, hf) → mm_G p l e R s m args below meth c D cs A h0 hf Q x.1.2.2.1 t L' st' h')
    (hin : ∃ q0, mm_ins x pc = some (q0, .invokestatic k, len)) (hd : decode x.1.2.1 pc = .ok (.invokestatic k, len)) (hl : mm_lk (.invokestatic k) = len) (hk : mm_iok x (.invokestatic k) = true) (hr : mm_stp E cl x go (.invokestatic k) len pc L st h = some (o, hf)) : mm_G p l e R s m args below meth c D cs A h0 hf Q x.1.2.2.1 pc L st h := by
  have hl : 3 = len := hl
  subst hl
  rcases mm_op_of (show mm_op (mm_fd mm_ml x.2.1.1 k) (fun q => mm_inv E cl x q.2.1 3 pc go L st h) none = some (o, hf) from hr) with ⟨q, hq, hr1⟩ | ⟨-, hr1⟩
  · have ho := C.2.2.2.2.2.2.1
    obtain ⟨m1, m2, m3⟩ := mm_ml_at ho hq
    have hk : ((Nat.beq q.2.2.2 0 && (Nat.beq q.2.1 1003 || (Nat.beq q.2.1 1004 || (Nat.beq q.2.1 1005 || (Nat.ble (q.2.1 + 1) 1000 && mm_sta q.2.1))))) || (Nat.beq q.2.2.2 1 && (Nat.ble (q.2.1 + 1) 1000 && (mm_sta q.2.1 && (mm_hh q.2.1).isEmpty)))) = true := by
      have hk2 : (mm_fd mm_ml x.2.1.1 k).elim true (fun q => (Nat.beq q.2.2.2 0 && (Nat.beq q.2.1 1003 || (Nat.beq q.2.1 1004 || (Nat.beq q.2.1 1005 || (Nat.ble (q.2.1 + 1) 1000 && mm_sta q.2.1))))) || (Nat.beq q.2.2.2 1 && (Nat.ble (q.2.1 + 1) 1000 && (mm_sta q.2.1 && (mm_hh q.2.1).isEmpty)))) = true := hk
      rw [hq] at hk2
      exact hk2
    rw [Bool.or_eq_true] at hk
    rcases hk with hk | hk
    rotate_left
    · rw [Bool.and_eq_true, Bool.and_eq_true, Bool.and_eq_true] at hk
      have hn := Nat.eq_of_beq_eq_true hk.1
      have e1 := Nat.le_of_ble_eq_true hk.2.1
      obtain ⟨j1, j2⟩ := m3 (by omega)
      have hyn : mm_yn q.2.1 = (mm_x q.2.1).1.1 := by
        unfold mm_yn
        have z : ∀ n, 1000 ≤ n → Nat.beq q.2.1 n = false := fun n hn => by
          cases hz : Nat.beq q.2.1 n with
          | true => have := Nat.eq_of_beq_eq_true hz; omega
          | false => rfl
        rw [z 1000 (by omega), z 1001 (by omega), z 1002 (by omega), z 1003 (by omega), z 1004 (by omega), z 1005 (by omega)]
        rfl
      have hr2 : mm_op (mm_pop (mm_x q.2.1).2.1.2.1 [] st) (fun q' => bif Nat.ble (mm_wt q'.2) 8 then
        (bif Nat.beq (mm_x q.2.1).2.1.2.2 0 then mm_cV x.2.2.1.2.2 (cl q.2.1 q'.1 h) (fun h' => go (pc + 3) L q'.2 h')
         else mm_cI x.2.2.1.2.2 (cl q.2.1 q'.1 h) (fun v h' => go (pc + 3) L (.int v :: q'.2) h'))
        else none) none = some (o, hf) := by
        unfold mm_inv at hr1
        rw [show Nat.ble 1000 q.2.1 = false from by cases hz : Nat.ble 1000 q.2.1 with | true => exact absurd (Nat.le_of_ble_eq_true hz) (by omega) | false => rfl, cond_false] at hr1
        exact hr1
      have hRO := C.2.2.2.2.2.2.2.2.2.2.2
      have hq2 := List.all_eq_true.mp (List.all_eq_true.mp mm_ml_ok _ (List.mem_range.mpr ho)) q (mm_fd_of hq).1
      rw [hk.1, cond_true, Bool.and_eq_true, Bool.and_eq_true] at hq2
      have h3 := hRO.2.2.2.2.2.1 (2, x.2.1.1, q.1, q.2.1) (mm_has_mem hq2.1.1) rfl
      have h4 : va_Nw (.methodLinkNest (mm_cn x.2.1.1) q.1 (mm_yn q.2.1) "PromisedStock") s := h3
      rw [hyn, (mm_fd_of hq).2] at h4
      obtain ⟨q0, hin⟩ := hin
      exact mm_callG (k := k) C HC hRm HT hgo ⟨q0, _, hin, k, Or.inr (Or.inl rfl)⟩ j1 j2 (Or.inl ⟨hk.2.2.1, hd, Or.inr ⟨hk.2.2.2, h4⟩⟩) hr2
    rw [Bool.and_eq_true] at hk
    have e2 := Nat.eq_of_beq_eq_true hk.1
    have m1 := m1 (by omega)
    have hk := hk.2
    rw [Bool.or_eq_true, Bool.or_eq_true, Bool.or_eq_true] at hk
    rcases hk with hk | hk | hk | hk
    · have e1 := Nat.eq_of_beq_eq_true hk
      rw [e1] at hr1 m1
      obtain ⟨n, dp, dd, sp, a, r, rfl, hr2⟩ := mm_cq_of (show mm_cq st (fun n dp d sp a r => bif Nat.ble (mm_wt r) 8 then mm_cp h a sp d dp n (fun h' => go (pc + 3) L r h') else none) = some (o, hf) from hr1)
      obtain ⟨hw, hr3⟩ := mm_bif_of hr2
      obtain ⟨n0, f, n1, gg, c1, c2, c3, c4, c5, c6, c7, hr4⟩ := mm_cp_of hr3
      have g := hgo _ _ _ _ hr4
      obtain ⟨hx, hb, hml, hown, hts, -, -, hK, hA, hR, hR2, -⟩ := C
      refine ⟨g.1, fun H locs cells slots ls hI hL => ?_⟩
      have w1 : Cond.native arraycopyName ∈ mm_tb := mm_tb_of (List.mem_of_getElem? (i := 589) (by decide +kernel)) rfl
      have w2 : Cond.static arraycopyName ∈ mm_tb := mm_tb_of (List.mem_of_getElem? (i := 588) (by decide +kernel)) rfl
      have w3 : Cond.initialized "java/lang/System" ∈ mm_tb := mm_tb_of (List.mem_of_getElem? (i := 21) (by decide +kernel)) rfl
      obtain ⟨Ls, k1, hLs, hP, hD, hk0, hk1⟩ := mm_cell hI c2
      obtain ⟨k2, hk2⟩ := va_pl_get (X := []) (f := mm_f cs h.1) ((hLs a).mpr (by rw [c1]; exact fun z => by cases z))
      rw [mm_f_at c1] at hk2
      exact va_copyi hx hb (by rw [hml]; exact hL.1.symm) hown (hts _ m1) (hts _ w1) (hts _ w2) (hts _ w3) hK hP hD (mm_S_self hI.2.1) k2 k1 0 0 hk2 hk1 rfl rfl rfl c3 c4 c5 c6 c7 (fun _ _ => rfl) (by omega) (by have := mm_lw8 (m := m) (pc := pc) (ls := ls) (st := []) hw; have e9 : nativeFrameWords "java/lang/System" "arraycopy" 5 = 7 := (by decide +kernel); omega) hd (fun H1 locs1 hP1 hD1 hS1 => mm_stW g hL hI hLs c2 hD hk0 hP1 hD1 hS1)
    · have e1 := Nat.eq_of_beq_eq_true hk
      rw [e1] at hr1 m1
      obtain ⟨a, b, r, rfl, hr2⟩ := mm_i2_of (show mm_i2 st (fun a b r => bif Nat.ble (mm_wt r) 8 then go (pc + 3) L (.int (mm_mx a b) :: r) h else none) = some (o, hf) from hr1)
      obtain ⟨hw, hr3⟩ := mm_bif_of hr2
      have g := hgo _ _ _ _ hr3
      obtain ⟨hx, hb, hml, hown, hts, -, -, hK, hA, hR, hR2, -⟩ := C
      refine ⟨g.1, fun H locs cells slots ls hI hL => ?_⟩
      have w2 : Cond.static Lib.Math.max.name ∈ mm_tb := mm_tb_cl (q := (6, 284, 0, 0)) (by decide +kernel) (show ¬ (6 : Nat) = 0 by decide) rfl
      have w3 : Cond.initialized "java/lang/Math" ∈ mm_tb := mm_tb_cl (q := (9, 12, 0, 0)) (by decide +kernel) (show ¬ (9 : Nat) = 0 by decide) rfl
      have w4 : Cond.code Lib.Math.max.name Lib.Math.max.code 2 (some .int) ∈ mm_tb := mm_tb_cl (q := (4, 284, 0, 0)) (by decide +kernel) (show ¬ (4 : Nat) = 0 by decide) rfl
      have hcc := hI.2.2.2.1
      have hss := hI.2.2.2.2
      have gg := g.1
      exact va_mmax hx hb (by rw [hml]; exact hL.1.symm) hown (hts _ m1) (hts _ w2) (hts _ w3) (hts _ w4) (by omega) (by have := mm_lw8 (m := m) (pc := pc) (ls := ls) (st := []) hw; omega) (by omega) (by omega) hd (g.2 H locs cells slots ls hI hL)
    · have e1 := Nat.eq_of_beq_eq_true hk
      rw [e1] at hr1 m1
      obtain ⟨a, b, r, rfl, hr2⟩ := mm_i2_of (show mm_i2 st (fun a b r => bif Nat.ble (mm_wt r) 8 then go (pc + 3) L (.int (mm_mn a b) :: r) h else none) = some (o, hf) from hr1)
      obtain ⟨hw, hr3⟩ := mm_bif_of hr2
      have g := hgo _ _ _ _ hr3
      obtain ⟨hx, hb, hml, hown, hts, -, -, hK, hA, hR, hR2, -⟩ := C
      refine ⟨g.1, fun H locs cells slots ls hI hL => ?_⟩
      have w2 : Cond.static Lib.Math.min.name ∈ mm_tb := mm_tb_cl (q := (6, 285, 0, 0)) (by decide +kernel) (show ¬ (6 : Nat) = 0 by decide) rfl
      have w3 : Cond.initialized "java/lang/Math" ∈ mm_tb := mm_tb_cl (q := (9, 12, 0, 0)) (by decide +kernel) (show ¬ (9 : Nat) = 0 by decide) rfl
      have w4 : Cond.code Lib.Math.min.name Lib.Math.min.code 2 (some .int) ∈ mm_tb := mm_tb_cl (q := (4, 285, 0, 0)) (by decide +kernel) (show ¬ (4 : Nat) = 0 by decide) rfl
      have hcc := hI.2.2.2.1
      have hss := hI.2.2.2.2
      have gg := g.1
      exact va_mmin hx hb (by rw [hml]; exact hL.1.symm) hown (hts _ m1) (hts _ w2) (hts _ w3) (hts _ w4) (by omega) (by have := mm_lw8 (m := m) (pc := pc) (ls := ls) (st := []) hw; omega) (by omega) (by omega) hd (g.2 H locs cells slots ls hI hL)
    · rw [Bool.and_eq_true] at hk
      have e1 := Nat.le_of_ble_eq_true hk.1
      obtain ⟨j1, j2⟩ := m3 (by omega)
      have hyn : mm_yn q.2.1 = (mm_x q.2.1).1.1 := by
        unfold mm_yn
        have z : ∀ n, 1000 ≤ n → Nat.beq q.2.1 n = false := fun n hn => by
          cases hz : Nat.beq q.2.1 n with
          | true => have := Nat.eq_of_beq_eq_true hz; omega
          | false => rfl
        rw [z 1000 (by omega), z 1001 (by omega), z 1002 (by omega), z 1003 (by omega), z 1004 (by omega), z 1005 (by omega)]
        rfl
      have hr2 : mm_op (mm_pop (mm_x q.2.1).2.1.2.1 [] st) (fun q' => bif Nat.ble (mm_wt q'.2) 8 then
        (bif Nat.beq (mm_x q.2.1).2.1.2.2 0 then mm_cV x.2.2.1.2.2 (cl q.2.1 q'.1 h) (fun h' => go (pc + 3) L q'.2 h')
         else mm_cI x.2.2.1.2.2 (cl q.2.1 q'.1 h) (fun v h' => go (pc + 3) L (.int v :: q'.2) h'))
        else none) none = some (o, hf) := by
        unfold mm_inv at hr1
        rw [show Nat.ble 1000 q.2.1 = false from by cases hz : Nat.ble 1000 q.2.1 with | true => exact absurd (Nat.le_of_ble_eq_true hz) (by omega) | false => rfl, cond_false] at hr1
        exact hr1
      rw [hyn] at m1
      obtain ⟨q0, hin⟩ := hin
      exact mm_callG (k := k) C HC hRm HT hgo ⟨q0, _, hin, k, Or.inr (Or.inl rfl)⟩ j1 j2 (Or.inl ⟨hk.2, hd, Or.inl m1⟩) hr2
  · cases hr1
end MMJ
