/-! SOUNDNESS, eighth part: calls -/
section MMH
variable {p : Program} {l : Launch} {e : Env} {R : Room} {s : State} {m : MethodId} {args : Array Value} {below : List Frame} {meth : Method} {c : Code} {D : va_G} {cs : ClassId × ClassId × ClassId} {A A' : Nat → Prop} {h0 hf h h' : mm_H} {Q : State → Prop} {o : mm_O} {E : mm_E} {cl : mm_F} {x : mm_I} {H H1 : Heap} {locs locs1 : List Loc} {cells slots nL pc : Nat} {L : mm_L} {st : List Value} {ls : Array Slot} {g : JFrame} {go : mm_K} {len : Nat} {U : State}
/-- what is read alone, seen from a call -/
theorem mm_RO_call (hRO : mm_RO E A s s.heap) (hH : ∀ q, q < s.heap.size → ¬ A q → H[q]? = s.heap[q]?) (hz : s.heap.size ≤ H.size) (hW : s.WarmedH U.vm) (hA : ∀ q, A' q → A q) : mm_RO E A' U H := by
  obtain ⟨⟨a1, a2, a3⟩, ⟨b1, b2⟩, c1, d1, e1, f1, g1, i1, j1, k1, l1, m1, n1, o1⟩ := hRO
  have hv := hW.alike
  refine ⟨⟨va_X.moved hv (a1.kept (hH _ a2 a3)), Nat.lt_of_lt_of_le a2 hz, fun z => a3 (hA _ z)⟩, ⟨(va_T.moved hv (b1.kept hH)).narrow hA, Nat.lt_of_lt_of_le b2 hz⟩, (va_Z.moved hv (c1.kept hH)).narrow hA, fun i q hq => vk_R.warm hW (d1 i q hq), va_AO.moved hv e1, fun q hq h2 => ?_, fun a t ht => ?_, (va_Z.moved hv (i1.kept hH)).narrow hA, (va_Zq.moved hv (j1.kept hH)).narrow hA, (vx_Zq.moved hv (k1.kept hH)).narrow hA, (vx_Zq.moved hv (l1.kept hH)).narrow hA, va_Nc.moved hv m1, va_Nc.moved hv n1, mm_nb_warm hW o1⟩
  · have h3 := f1 q hq h2
    obtain ⟨q1, q2⟩ := q
    have h2 : q1 = 2 := h2
    subst h2
    exact va_Nw.warmM hW h3
  · obtain ⟨v, t1, t2, t3, t4, t5, t6⟩ := g1 a t ht
    exact ⟨v, (va_O.moved hv (t1.kept hH)).narrow hA, (va_OF.moved hv (t2.kept hH)).narrow hA, (va_OF.moved hv (t3.kept hH)).narrow hA, (va_T.moved hv (t4.kept hH)).narrow hA, t5, t6⟩
/-- the world at a call's entry -/
def mm_W (E : mm_E) (D : va_G) (cs : ClassId × ClassId × ClassId) (h : mm_H) (sz : Nat) (U : State) : Prop :=
  U.heap.size = sz ∧ mm_Hd D cs (fun _ => True) h.1 U.heap ∧ (∀ n, h.2.1 = some n → sz = n) ∧ va_K D mm_vc (mm_ty cs) U ∧ mm_RO E (mm_A h.1 sz) U U.heap
/-- .. and at its end -/
def mm_B (D : va_G) (cs : ClassId × ClassId × ClassId) (h h' : mm_H) (sz : Nat) (t : State) : Prop :=
  mm_Hd D cs (mm_A h.1 sz) h'.1 t.heap ∧ ∀ n, h'.2.1 = some n → t.heap.size = n ∧ n + h.2.2.1 = sz + h'.2.2.1 ∧ h.2.1 ≠ none
def mm_Qr (D : va_G) (cs : ClassId × ClassId × ClassId) (h : mm_H) (o : mm_O) (h' : mm_H) (sz : Nat) : Array Value → State → Outcome → State → Prop := fun _ st oc t => (∃ v, o = .inl v ∧ oc = .returned v) ∧ mm_B D cs h h' sz t ∧ va_F (mm_A h.1 sz) st t
def mm_Qx (D : va_G) (cs : ClassId × ClassId × ClassId) (h : mm_H) (o : mm_O) (h' : mm_H) (sz : Nat) : String → State → State → Prop := fun nm st t => (∃ y, o = .inr y ∧ nm = mm_xn y) ∧ mm_B D cs h h' sz t ∧ va_F (mm_A h.1 sz) st t
def mm_ws (j : Nat) : List Cond := (bif (mm_hh j).isEmpty then Cond.code (mm_x j).1.1 (mm_x j).1.2.1 (mm_x j).1.2.2.1 (mm_x j).1.2.2.2 else Cond.codeWith (mm_x j).1.1 (mm_x j).1.2.1 (mm_x j).1.2.2.1 (mm_x j).1.2.2.2 (mm_hh j)) :: mm_tb
def mm_rm (d : Nat) (h h' : mm_H) : Room := { frames := d + 12, cells := h'.2.2.1 - h.2.2.1, slots := h'.2.2.2 - h.2.2.2, locals := 60 * d + 200 }
/-- calls as cl answers them are true of the machine, in a room of depth d -/
def mm_Cl (l : Launch) (E : mm_E) (D : va_G) (cs : ClassId × ClassId × ClassId) (cl : mm_F) (d : Nat) : Prop := ∀ (j : Nat) (as : List Value) (h h' : mm_H) (o : mm_O), j < 287 → mm_bad j = false → cl j as h = some (o, h') →
  (h.2.2.1 ≤ h'.2.2.1 ∧ h.2.2.2 ≤ h'.2.2.2) ∧ mm_rok j as h = true ∧ ∃ dd, dd ≤ d ∧ ∀ sz, vx_Met l (mm_x j).1.1 (mm_ws j) (mm_rm dd h h') (va_Pc as (mm_W E D cs h sz)) (mm_Qr D cs h o h' sz) (mm_Qx D cs h o h' sz) (h'.2.2.1 - h.2.2.1) (h'.2.2.2 - h.2.2.2) (mm_A h.1 sz)
theorem mm_blind {as : List Value} {sz : Nat} : FrameBlind (va_Pc as (mm_W E D cs h sz)) := fun a U g mk q => by
  obtain ⟨q0, q1, q2, q3, q4, q5⟩ := q
  exact ⟨q0, q1, q2, q3, va_K.moved (u := U) (U := U.calling g mk a) (Vm.Alike.refl U.vm) q4, mm_RO_call (s := U) (U := U.calling g mk a) (H := U.heap) q5 (fun _ _ _ => rfl) (Nat.le_refl _) (State.WarmedH.refl U) (fun _ z => z)⟩
/-- the world that a call finds -/
theorem mm_pre {as : List Value} (C : mm_cx p R s m args meth c D cs A h0 hf E x) (hI : mm_Iv s D cs A h0 h H locs cells slots) : ∀ U : State, U.heap = H → s.WarmedH U.vm → va_Pc as (mm_W E D cs h H.size) as.toArray U := by
  intro U hU hW
  obtain ⟨hx, hb, -, hown, hts, -, ho, hK, hA, hR, -, hRO⟩ := C
  obtain ⟨⟨Ls, hLs, hP, hD⟩, hS, hN, -⟩ := hI
  refine ⟨rfl, by rw [hU], ⟨Ls, hLs, by rw [hU]; exact hP, hD.weaken (fun _ _ _ _ => trivial)⟩, fun n hn => (hN n hn).1, va_K.moved hW.alike hK, ?_⟩
  rw [hU]
  refine mm_RO_call hRO hS.2.1 hS.1 hW (fun q hq => ?_)
  rcases hq with hq | hq
  · obtain ⟨k, hk⟩ := va_pl_get (X := []) (f := mm_f cs h.1) ((hLs q).mpr hq)
    exact hD.2 k _ hk
  · exact hA q (Nat.le_trans hS.1 hq)
theorem mm_A_in (hA : ∀ q, s.heap.size ≤ q → A q) (hI : mm_Iv s D cs A h0 h H locs cells slots) : ∀ q, mm_A h.1 H.size q → A q := by
  obtain ⟨⟨Ls, hLs, hP, hD⟩, hS, -⟩ := hI
  intro q hq
  rcases hq with hq | hq
  · obtain ⟨k, hk⟩ := va_pl_get (X := []) (f := mm_f cs h.1) ((hLs q).mpr hq)
    exact hD.2 k _ hk
  · exact hA q (Nat.le_trans hS.1 hq)
/-- what stands behind a call -/
theorem mm_after {T' t st₀ : State} {L' : List Loc} (hA : ∀ q, s.heap.size ≤ q → A q) (hI : mm_Iv s D cs A h0 h H locs cells slots) (hm : h.2.2.1 ≤ h'.2.2.1 ∧ h.2.2.2 ≤ h'.2.2.2) (hst : st₀.heap = H) (hB : mm_B D cs h h' H.size t) (hF : va_F (mm_A h.1 H.size) st₀ t) (e1 : T'.heap = t.heap) (hL' : ∀ q ∈ L', mm_A h.1 H.size q.base) :
    mm_Iv s D cs A h0 h' T'.heap (locs ++ L') (cells + (h'.2.2.1 - h.2.2.1)) (slots + (h'.2.2.2 - h.2.2.2)) := by
  have hin := mm_A_in hA hI
  obtain ⟨-, hS, hN, hcc, hss⟩ := hI
  obtain ⟨-, -, hS'⟩ := vx_keep (H := H) hst e1 hS (fun q _ => hin q) hin hL' hF
  obtain ⟨⟨Ls', hLs', hP', hD'⟩, hN'⟩ := hB
  refine ⟨⟨Ls', hLs', by rw [e1]; exact hP', hD'.weaken (fun k q _ z => hin _ z)⟩, hS', fun n hn => ?_, by omega, by omega⟩
  obtain ⟨n1, n2, n3⟩ := hN' n hn
  obtain ⟨n0, hn0⟩ := Option.ne_none_iff_exists'.mp n3
  obtain ⟨q1, q2, q3⟩ := hN n0 hn0
  exact ⟨by rw [e1]; exact n1, by omega, q3⟩
/-- a call that returns -/
theorem mm_retW {v : Option Value} {rest st0 : List Value} {a : Array Value} (hA : ∀ q, s.heap.size ≤ q → A q) (hm : h.2.2.1 ≤ h'.2.2.1 ∧ h.2.2.2 ≤ h'.2.2.2)
    (hr : vx_Run p l e R s m args below meth c H locs cells slots (h'.2.2.1 - h.2.2.1) (h'.2.2.2 - h.2.2.2) (F0 m pc ls st0) rest (mm_Qr D cs h (.inl v) h' H.size a) (mm_Qx D cs h (.inl v) h' H.size) (mm_A h.1 H.size))
    (hI : mm_Iv s D cs A h0 h H locs cells slots) (hL : mm_lr ls nL L) (gg : mm_G p l e R s m args below meth c D cs A h0 hf Q nL (pc + 3) L (v.toList ++ rest) h') : W p l e R s m args below meth c H locs cells slots Q (F0 m pc ls st0) := by
  intro T hT X
  rcases hr T hT X with ⟨v', st₀, t, T', L', hst, X', hL', e1, e2, ⟨⟨v2, ev, eo⟩, hB, hF⟩, st⟩ | ⟨q, st₀, t, T', L', E', ce, hst, X', hL', e1, e2, ⟨⟨y, ey, -⟩, -⟩, -⟩
  · cases ev
    cases eo
    obtain ⟨t2, a1, b1⟩ := gg.2 T'.heap (locs ++ L') _ _ ls (mm_after hA hI hm hst hB hF e1 hL') hL T' rfl X'
    exact ⟨t2, st t2 a1, b1⟩
  · cases ey
/-- a call that throws -/
theorem mm_thrW {y : Nat} {rest st0 : List Value} {a : Array Value} (hA : ∀ q, s.heap.size ≤ q → A q) (hm : h.2.2.1 ≤ h'.2.2.1 ∧ h.2.2.2 ≤ h'.2.2.2)
    (hr : vx_Run p l e R s m args below meth c H locs cells slots (h'.2.2.1 - h.2.2.1) (h'.2.2.2 - h.2.2.2) (F0 m pc ls st0) rest (mm_Qr D cs h (.inr y) h' H.size a) (mm_Qx D cs h (.inr y) h' H.size) (mm_A h.1 H.size))
    (hI : mm_Iv s D cs A h0 h H locs cells slots)
    (HT : ∀ (H1 : Heap) (locs1 : List Loc) (q : Addr) (ce : Cell), mm_Iv s D cs A h0 h' H1 locs1 (cells + (h'.2.2.1 - h.2.2.1)) (slots + (h'.2.2.2 - h.2.2.2)) → H1[q]? = some ce → ce.vm = .none → s.vm.findClass (mm_xn y) = some ce.cls → vx_W p l e R s m args below meth c H1 locs1 (cells + (h'.2.2.1 - h.2.2.1)) (slots + (h'.2.2.2 - h.2.2.2)) Q (F0 m pc ls rest) q) :
    W p l e R s m args below meth c H locs cells slots Q (F0 m pc ls st0) := by
  intro T hT X
  rcases hr T hT X with ⟨v', st₀, t, T', L', hst, X', hL', e1, e2, ⟨⟨v2, ev, eo⟩, -⟩, -⟩ | ⟨q, st₀, t, T', L', E', ce, hst, X', hL', e1, e2, ⟨⟨y', ey, en⟩, hB, hF⟩, hce, hcv, hcl, st⟩
  · cases ev
  · cases ey
    subst en
    obtain ⟨t2, a1, b1⟩ := HT T'.heap (locs ++ L') q ce (mm_after hA hI hm hst hB hF e1 hL') (by rw [e1]; exact hce) hcv hcl T' rfl X'
    exact ⟨t2, st.trans a1, b1⟩
end MMH
