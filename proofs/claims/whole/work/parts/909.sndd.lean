/-! SOUNDNESS, fourth part: the instructions of fields and rows -/
section MMD
variable {p : Program} {l : Launch} {e : Env} {R : Room} {s : State} {m : MethodId} {args : Array Value} {below : List Frame} {meth : Method} {c : Code} {D : va_G} {cs : ClassId × ClassId × ClassId} {A : Nat → Prop} {h0 hf h : mm_H} {Q : State → Prop} {o : mm_O} {E : mm_E} {cl : mm_F} {x : mm_I} {H H1 : Heap} {locs locs1 : List Loc} {cells slots nL pc : Nat} {L : mm_L} {st : List Value} {ls : Array Slot} {g : JFrame}
/-- the heap is no greater than what was made -/
theorem mm_szW (k : H.size ≤ s.heap.size + cells → W p l e R s m args below meth c H locs cells slots Q g) : W p l e R s m args below meth c H locs cells slots Q g := by
  intro T hT X
  exact k (by rw [← hT]; exact X.heapSize) T hT X
theorem mm_S_self (h : va_S A s.heap H locs) : va_S A H H locs := ⟨Nat.le_refl _, fun _ _ _ => rfl, h.2.2⟩
theorem mm_S_trans (h : va_S A s.heap H locs) (h1 : va_S A H H1 locs1) : va_S A s.heap H1 locs1 := ⟨Nat.le_trans h.1 h1.1, fun q hq hA => (h1.2.1 q (Nat.lt_of_lt_of_le hq h.1) hA).trans (h.2.1 q hq hA), h1.2.2⟩
/-- behind a store in the cell a -/
theorem mm_stW {a k : Nat} {c0 c1 : mm_C} {Ls : List Nat} (gg : mm_G p l e R s m args below meth c D cs A h0 hf Q nL pc L st (mm_up h a c1)) (hL : mm_lr ls nL L) (hI : mm_Iv s D cs A h0 h H locs cells slots) (hLs : ∀ a, a ∈ Ls ↔ h.1 a ≠ none) (hc : h.1 a = some c0)
    (hD : va_D A ([] ++ va_pl Ls (mm_f cs h.1))) (hk : ([] ++ va_pl Ls (mm_f cs h.1))[k]? = some (a, mm_f cs h.1 a)) (hP1 : va_P D mm_vc (([] ++ va_pl Ls (mm_f cs h.1)).set k (a, mm_toE cs c1)) H1) (hD1 : va_D A (([] ++ va_pl Ls (mm_f cs h.1)).set k (a, mm_toE cs c1))) (hS1 : va_S A H H1 locs1) :
    W p l e R s m args below meth c H1 locs1 cells slots Q (F0 m pc ls st) := by
  have ha : a ∈ Ls := (hLs a).mpr (by rw [hc]; exact fun z => by cases z)
  rw [va_pl_set hD ha hk, mm_f_up] at hP1 hD1
  refine mm_szW fun hz => ?_
  obtain ⟨-, hS, hN, hcc, hss⟩ := hI
  refine gg.2 H1 locs1 cells slots ls ⟨⟨Ls, fun b => ?_, hP1, hD1⟩, mm_S_trans hS hS1, fun n hn => ?_, hcc, hss⟩ hL
  · by_cases hb : b = a
    · subst hb
      simp [mm_up, va_up, ha]
    · simp only [mm_up, va_up, hb, if_false]
      exact hLs b
  · obtain ⟨e1, e2, e3⟩ := hN n hn
    have hc2 : h0.2.2.1 + cells = h.2.2.1 := hcc
    have hs1 := hS1.1
    refine ⟨?_, e2, e3⟩
    omega
/-- what the heap holds, with a place for a cell -/
theorem mm_cell {a : Nat} {c0 : mm_C} (hI : mm_Iv s D cs A h0 h H locs cells slots) (hc : h.1 a = some c0) : ∃ (Ls : List Nat) (k : Nat), (∀ a, a ∈ Ls ↔ h.1 a ≠ none) ∧ va_P D mm_vc ([] ++ va_pl Ls (mm_f cs h.1)) H ∧ va_D A ([] ++ va_pl Ls (mm_f cs h.1)) ∧ ([] ++ va_pl Ls (mm_f cs h.1))[k]? = some (a, mm_f cs h.1 a) ∧ ([] ++ va_pl Ls (mm_f cs h.1))[k]? = some (a, mm_toE cs c0) := by
  obtain ⟨⟨Ls, h1, h2, h3⟩, -⟩ := hI
  obtain ⟨k, hk⟩ := va_pl_get (X := []) (f := mm_f cs h.1) ((h1 a).mpr (by rw [hc]; exact fun z => by cases z))
  exact ⟨Ls, k, h1, h2, h3, hk, by rw [hk, mm_f_at hc]⟩
/-- a text: a String of one byte a letter -/
def mm_TX (E : mm_E) (A : Nat → Prop) (U : State) (H : Heap) : Prop := ∀ (a : Nat) (t : List Int32), E.2.2.2 a = some t → ∃ v : Nat, va_O "java/lang/String" a A U H ∧ va_OF "java/lang/String" "coder" "B" (.int 0) a A U H ∧ va_OF "java/lang/String" "value" "[B" (.ref v) a A U H ∧ va_T .byte v t.length (fun j => .int (t.getD j 0)) A U H
  ∧ t.length < 1000 ∧ ∀ j, j < t.length → ((t.getD j 0) &&& 255) = t.getD j 0
/-- words of throwing that are no good words -/
def mm_nb : List Cond := [.castable "java/util/NoSuchElementException" "java/util/NoSuchElementException", .castable "java/lang/IllegalArgumentException" "java/lang/IllegalArgumentException", .declares (Bundle.initS "java/lang/RuntimeException"), .declares (Bundle.initS "java/lang/Exception"), .declares (Bundle.initS "java/lang/Throwable")]
theorem mm_nb_warm {s U : State} (hW : s.WarmedH U.vm) (h : ∀ w ∈ mm_nb, va_Nw w s) : ∀ w ∈ mm_nb, va_Nw w U := by
  intro w hw
  have h1 := h w hw
  simp only [mm_nb, List.mem_cons, List.not_mem_nil, or_false] at hw
  rcases hw with rfl | rfl | rfl | rfl | rfl
  · exact va_Nw.warmC hW h1
  · exact va_Nw.warmC hW h1
  · exact va_Nw.warmD hW h1
  · exact va_Nw.warmD hW h1
  · exact va_Nw.warmD hW h1
/-- what is read alone: the script, MOST, the String constants, what throwing and nest mates ask -/
def mm_RO (E : mm_E) (A : Nat → Prop) (U : State) (H : Heap) : Prop :=
  (va_X E.1.1 E.1.2.1 E.1.2.2 U H ∧ E.1.1 < H.size ∧ ¬ A E.1.1) ∧ (va_T .int E.2.1 7 (fun j => .int (mm_most.getD j 0)) A U H ∧ E.2.1 < H.size) ∧ va_Z "PromisedStock" "MOST" "[I" (.ref E.2.1) A U H
  ∧ (∀ i q, mm_sc[i]? = some q → vk_R (mm_cn q.1) q.2.1 q.2.2.1 (E.2.2.1 i) U) ∧ va_AO "PromisedStock$Row" U
  ∧ (∀ q ∈ mm_ca, q.1 = 2 → va_Nw (mm_wd q) U) ∧ mm_TX E A U H ∧ va_Z "java/lang/String" "COMPACT_STRINGS" "Z" (.int 1) A U H ∧ va_Zq "jdk/internal/util/Preconditions" "SIOOBE_FORMATTER" "Ljava/util/function/BiFunction;" A U H
  ∧ vx_Zq Bundle.tN "UNASSIGNED_STACK" Bundle.steD A U H ∧ vx_Zq Bundle.tN "SUPPRESSED_SENTINEL" Bundle.listD A U H
  ∧ va_Nc "java/util/NoSuchElementException" "java/lang/IllegalArgumentException" U ∧ va_Nc "java/lang/IllegalArgumentException" "java/util/NoSuchElementException" U
  ∧ (∀ w ∈ mm_nb, va_Nw w U)
/-- what a body knows: the machine, its code and class, the words, the classes, what is read alone -/
def mm_cx (p : Program) (R : Room) (s : State) (m : MethodId) (args : Array Value) (meth : Method) (c : Code) (D : va_G) (cs : ClassId × ClassId × ClassId) (A : Nat → Prop) (h0 hf : mm_H) (E : mm_E) (x : mm_I) : Prop :=
  p.tables.exec = Jvm.exec ∧ c.code = x.1.2.1 ∧ c.maxLocals = x.1.2.2.1 ∧ s.vm.findClass (mm_cn x.2.1.1) = some m.cls ∧ (∀ w ∈ mm_tb, w.before args s = true) ∧ meth.name = x.1.1.name ∧ x.2.1.1 < 14 ∧ va_K D mm_vc (mm_ty cs) s ∧ (∀ q, s.heap.size ≤ q → A q)
  ∧ (hf.2.2.1 ≤ h0.2.2.1 + R.cells ∧ hf.2.2.2 ≤ h0.2.2.2 + R.slots) ∧ (12 ≤ R.frames ∧ 200 ≤ R.locals) ∧ mm_RO E A s s.heap
theorem mm_pv_of {v : Value} {ty : Nat} {y : mm_R} {z : mm_O × mm_H} (hr : mm_pv v ty y = some z) : y = some z ∧ ((∃ n, v = .int n ∧ (Nat.beq ty 0 = true ∨ (Nat.beq ty 3 = true ∧ (n = 0 ∨ n = 1)))) ∨ (∃ n, v = .long n ∧ Nat.beq ty 1 = true) ∨ (∃ a, v = .ref a ∧ Nat.beq ty 2 = true)) := by
  cases v with
  | int n =>
    have hr : (bif Nat.beq ty 0 then y else bif Nat.beq ty 3 then mm_bz n y else none) = some z := hr
    cases hy : Nat.beq ty 0 with
    | true =>
      rw [hy] at hr
      exact ⟨hr, Or.inl ⟨n, rfl, Or.inl rfl⟩⟩
    | false =>
      rw [hy] at hr
      obtain ⟨hz, hr⟩ := mm_bif_of (show (bif Nat.beq ty 3 then mm_bz n y else none) = _ from hr)
      rcases mm_br_of (show mm_br (n = 0 ∨ n = 1) y none = _ from hr) with ⟨hn, hr⟩ | ⟨-, hr⟩
      · exact ⟨hr, Or.inl ⟨n, rfl, Or.inr ⟨hz, hn⟩⟩⟩
      · cases hr
  | long n =>
    obtain ⟨hz, hr⟩ := mm_bif_of (show (bif Nat.beq ty 1 then y else none) = some z from hr)
    exact ⟨hr, Or.inr (Or.inl ⟨n, rfl, hz⟩)⟩
  | ref n =>
    obtain ⟨hz, hr⟩ := mm_bif_of (show (bif Nat.beq ty 2 then y else none) = some z from hr)
    exact ⟨hr, Or.inr (Or.inr ⟨n, rfl, hz⟩)⟩
  | float n => cases hr
  | double n => cases hr
  | null => cases hr
  | retAddr n => cases hr
section MMDi
variable {go : mm_K} {len : Nat}
theorem mm_q_getfield {k : Nat} (C : mm_cx p R s m args meth c D cs A h0 hf E x) (hgo : ∀ t L' st' h', go t L' st' h' = some (o, hf) → mm_G p l e R s m args below meth c D cs A h0 hf Q x.1.2.2.1 t L' st' h')
    (hd : decode x.1.2.1 pc = .ok (.getfield k, len)) (hl : mm_lk (.getfield k) = len) (hr : mm_stp E cl x go (.getfield k) len pc L st h = some (o, hf)) : mm_G p l e R s m args below meth c D cs A h0 hf Q x.1.2.2.1 pc L st h := by
  have hl : 3 = len := hl
  subst hl
  obtain ⟨hx, hb, -, hown, hts, -, ho, hK, -⟩ := C
  obtain ⟨a, r, rfl, hr1⟩ := mm_r1_of (show mm_r1 st (fun a r => mm_op (mm_fd mm_fl x.2.1.1 k) (fun q =>
      bif Nat.beq q.2.2.2.1 1 then mm_gJ h a q.2.1 q.2.2.1 (fun v => go (pc + 3) L (.long v :: r) h)
      else bif Nat.beq q.2.2.2.1 2 then mm_gR h a q.2.1 q.2.2.1 (fun v => go (pc + 3) L (.ref v :: r) h)
      else mm_gI h a q.2.1 q.2.2.1 (fun v => go (pc + 3) L (.int v :: r) h)) none) = some (o, hf) from hr)
  replace hr := hr1
  rcases mm_op_of hr with ⟨q, hq, hr⟩ | ⟨-, hr⟩
  · obtain ⟨f1, f2, f3, -⟩ := mm_fl_at ho hq
    have key : ∀ (fs : List Value) (v : Value), h.1 a = some (.inl (q.2.1, fs)) → fs[q.2.2.1]? = some v → go (pc + 3) L (v :: r) h = some (o, hf) → mm_G p l e R s m args below meth c D cs A h0 hf Q x.1.2.2.1 pc L (.ref a :: r) h := by
      intro fs v hc hv hr
      have g := hgo _ _ _ _ hr
      refine ⟨g.1, fun H locs cells slots ls hI hL => ?_⟩
      obtain ⟨Ls, k0, -, hP, -, -, hk⟩ := mm_cell hI hc
      exact va_get hx hb hts (mm_lays f1) hown hK hP k0 hk (mm_vc_at f1) q.2.2.1 f2 (hts _ f3) (fun _ z => z) hv hd (g.2 H locs cells slots ls hI hL)
    cases hy : Nat.beq q.2.2.2.1 1 with
    | true =>
      rw [hy] at hr
      obtain ⟨fs, v, h1, h2, h3⟩ := mm_gJ_of (show mm_gJ _ _ _ _ _ = _ from hr)
      exact key fs _ h1 h2 h3
    | false =>
      rw [hy] at hr
      cases hz : Nat.beq q.2.2.2.1 2 with
      | true =>
        rw [hz] at hr
        obtain ⟨fs, v, h1, h2, h3⟩ := mm_gR_of (show mm_gR _ _ _ _ _ = _ from hr)
        exact key fs _ h1 h2 h3
      | false =>
        rw [hz] at hr
        obtain ⟨fs, v, h1, h2, h3⟩ := mm_gI_of (show mm_gI _ _ _ _ _ = _ from hr)
        exact key fs _ h1 h2 h3
  · cases hr
theorem mm_q_putfield {k : Nat} (C : mm_cx p R s m args meth c D cs A h0 hf E x) (hgo : ∀ t L' st' h', go t L' st' h' = some (o, hf) → mm_G p l e R s m args below meth c D cs A h0 hf Q x.1.2.2.1 t L' st' h')
    (hd : decode x.1.2.1 pc = .ok (.putfield k, len)) (hl : mm_lk (.putfield k) = len) (hr : mm_stp E cl x go (.putfield k) len pc L st h = some (o, hf)) : mm_G p l e R s m args below meth c D cs A h0 hf Q x.1.2.2.1 pc L st h := by
  have hl : 3 = len := hl
  subst hl
  obtain ⟨hx, hb, -, hown, hts, hnm, ho, hK, -⟩ := C
  obtain ⟨v, a, r, rfl, hr1⟩ := mm_vr_of (show mm_vr st (fun v a r => mm_op (mm_fd mm_fl x.2.1.1 k) (fun q =>
      bif !((mm_fin.getD q.2.1 []).getD q.2.2.1 true) || (Nat.beq q.2.1 x.2.1.1 && decide (x.1.1.name = "<init>")) then
        mm_pv v q.2.2.2.1 (mm_pF h a q.2.1 q.2.2.1 v (fun h' => go (pc + 3) L r h')) else none) none) = some (o, hf) from hr)
  replace hr := hr1
  rcases mm_op_of hr with ⟨q, hq, hr⟩ | ⟨-, hr⟩
  · obtain ⟨f1, f2, f3, ⟨t1, t2, t3, t4⟩, f5, f6⟩ := mm_fl_at ho hq
    obtain ⟨hfin, hr⟩ := mm_bif_of hr
    have hpv : narrow (mm_tn q.2.1 q.2.2.1) v = v ∧ fits (mm_tn q.2.1 q.2.2.1) v = true ∧ mm_pF h a q.2.1 q.2.2.1 v (fun h' => go (pc + 3) L r h') = some (o, hf) := by
      obtain ⟨hr2, hv⟩ := mm_pv_of hr
      refine ⟨?_, ?_, hr2⟩
      all_goals
        rcases hv with ⟨n, rfl, hy | ⟨hy, hn⟩⟩ | ⟨n, rfl, hy⟩ | ⟨n, rfl, hy⟩
        · rw [hy] at t1; rw [of_decide_eq_true t1]; rfl
        · rw [hy] at t3; rw [of_decide_eq_true t3]; rcases hn with rfl | rfl <;> rfl
        · rw [hy] at t2; rw [of_decide_eq_true t2]; rfl
        · rw [hy] at t4
          cases ht : mm_tn q.2.1 q.2.2.1 with
          | object C => rfl
          | array C => rfl
          | _ => rw [ht] at t4; simp [fits] at t4
    obtain ⟨hn, hfi, hr⟩ := hpv
    obtain ⟨fs, hc, hlen, hr⟩ := mm_pF_of hr
    have g := hgo _ _ _ _ hr
    refine ⟨g.1, fun H locs cells slots ls hI hL => ?_⟩
    obtain ⟨Ls, k0, hLs, hP, hD, hk0, hk⟩ := mm_cell hI hc
    have hS := mm_S_self hI.2.1
    cases hF : ((mm_vcn q.2.1).2.1 q.2.2.1).2.2.2 with
    | false =>
      exact va_put hx hb hts (mm_lays f1) (mm_tn q.2.1) (mm_okT _ f1) (mm_nmT _ f1) hown hK hP hD hS k0 hk (mm_vc_at f1) q.2.2.1 f2 (hts _ f3) (fun _ z => z) hF (mm_okT _ f1 _ f2) hn hfi hlen hd (fun H1 locs1 hP1 hD1 hS1 => mm_stW g hL hI hLs hc hD hk0 hP1 hD1 hS1)
    | true =>
      rw [f5, hF] at hfin
      simp only [Bool.not_true, Bool.false_or, Bool.and_eq_true, decide_eq_true_eq] at hfin
      have hown2 := Nat.eq_of_beq_eq_true hfin.1
      exact va_putF hx hb hts (mm_lays f1) (mm_tn q.2.1) (mm_okT _ f1) (mm_nmT _ f1) hown hK hP hD hS k0 hk (mm_vc_at f1) q.2.2.1 f2 (hts _ f3) (fun _ z => z) hF (by rw [hnm]; exact hfin.2) (by rw [f6, hown2]) (mm_okT _ f1 _ f2) hn hfi hlen hd (fun H1 locs1 hP1 hD1 hS1 => mm_stW g hL hI hLs hc hD hk0 hP1 hD1 hS1)
  · cases hr
theorem mm_q_iaload (C : mm_cx p R s m args meth c D cs A h0 hf E x) (hgo : ∀ t L' st' h', go t L' st' h' = some (o, hf) → mm_G p l e R s m args below meth c D cs A h0 hf Q x.1.2.2.1 t L' st' h')
    (hd : decode x.1.2.1 pc = .ok (.iaload, len)) (hl : mm_lk .iaload = len) (hr : mm_stp E cl x go .iaload len pc L st h = some (o, hf)) : mm_G p l e R s m args below meth c D cs A h0 hf Q x.1.2.2.1 pc L st h := by
  have hl : 1 = len := hl
  subst hl
  obtain ⟨hx, hb, -, hown, hts, -, ho, hK, -, -, -, ⟨X1, X2, X3⟩, ⟨Y1, Y2⟩, -⟩ := C
  obtain ⟨i, a, r, rfl, hr1⟩ := mm_ir_of (show mm_ir st (fun i a r => mm_rI E h a i (fun v => go (pc + 1) L (.int v :: r) h)) = some (o, hf) from hr)
  replace hr := hr1
  rcases mm_rI_of hr with ⟨n, f, hc, hn, hr⟩ | ⟨rfl, hn, hr⟩ | ⟨rfl, hn, hr⟩
  · have g := hgo _ _ _ _ hr
    refine ⟨g.1, fun H locs cells slots ls hI hL => ?_⟩
    obtain ⟨Ls, k0, -, hP, -, -, hk⟩ := mm_cell hI hc
    exact va_iald hx hb hK hP k0 0 hk rfl hn hd (g.2 H locs cells slots ls hI hL)
  · have g := hgo _ _ _ _ hr
    exact ⟨g.1, fun H locs cells slots ls hI hL => va_sld hx hb X1 X2 X3 hI.2.1 hn hd (g.2 H locs cells slots ls hI hL)⟩
  · have g := hgo _ _ _ _ hr
    exact ⟨g.1, fun H locs cells slots ls hI hL => va_ti hx hb Y1 hI.2.1 hn rfl hd (g.2 H locs cells slots ls hI hL)⟩
theorem mm_q_laload (C : mm_cx p R s m args meth c D cs A h0 hf E x) (hgo : ∀ t L' st' h', go t L' st' h' = some (o, hf) → mm_G p l e R s m args below meth c D cs A h0 hf Q x.1.2.2.1 t L' st' h')
    (hd : decode x.1.2.1 pc = .ok (.laload, len)) (hl : mm_lk .laload = len) (hr : mm_stp E cl x go .laload len pc L st h = some (o, hf)) : mm_G p l e R s m args below meth c D cs A h0 hf Q x.1.2.2.1 pc L st h := by
  have hl : 1 = len := hl
  subst hl
  obtain ⟨hx, hb, -, hown, hts, -, ho, hK, -⟩ := C
  obtain ⟨i, a, r, rfl, hr1⟩ := mm_ir_of (show mm_ir st (fun i a r => mm_rJ h a i (fun v => go (pc + 1) L (.long v :: r) h)) = some (o, hf) from hr)
  replace hr := hr1
  obtain ⟨n, f, hc, hn, hr⟩ := mm_rJ_of hr
  have g := hgo _ _ _ _ hr
  refine ⟨g.1, fun H locs cells slots ls hI hL => ?_⟩
  obtain ⟨Ls, k0, -, hP, -, -, hk⟩ := mm_cell hI hc
  exact va_lald hx hb hK hP k0 1 hk rfl hn hd (g.2 H locs cells slots ls hI hL)
theorem mm_q_aaload (C : mm_cx p R s m args meth c D cs A h0 hf E x) (hgo : ∀ t L' st' h', go t L' st' h' = some (o, hf) → mm_G p l e R s m args below meth c D cs A h0 hf Q x.1.2.2.1 t L' st' h')
    (hd : decode x.1.2.1 pc = .ok (.aaload, len)) (hl : mm_lk .aaload = len) (hr : mm_stp E cl x go .aaload len pc L st h = some (o, hf)) : mm_G p l e R s m args below meth c D cs A h0 hf Q x.1.2.2.1 pc L st h := by
  have hl : 1 = len := hl
  subst hl
  obtain ⟨hx, hb, -, hown, hts, -, ho, hK, -⟩ := C
  obtain ⟨i, a, r, rfl, hr1⟩ := mm_ir_of (show mm_ir st (fun i a r => mm_rR h a i (fun v => go (pc + 1) L (.ref v :: r) h)) = some (o, hf) from hr)
  replace hr := hr1
  obtain ⟨n, f, q, hc, hn, hq, hr⟩ := mm_rR_of hr
  have g := hgo _ _ _ _ hr
  refine ⟨g.1, fun H locs cells slots ls hI hL => ?_⟩
  obtain ⟨Ls, k0, -, hP, -, -, hk⟩ := mm_cell hI hc
  refine va_aldq hx hb hK hP k0 2 hk rfl hn hd ?_
  rw [hq]
  exact g.2 H locs cells slots ls hI hL
theorem mm_q_iastore (C : mm_cx p R s m args meth c D cs A h0 hf E x) (hgo : ∀ t L' st' h', go t L' st' h' = some (o, hf) → mm_G p l e R s m args below meth c D cs A h0 hf Q x.1.2.2.1 t L' st' h')
    (hd : decode x.1.2.1 pc = .ok (.iastore, len)) (hl : mm_lk .iastore = len) (hr : mm_stp E cl x go .iastore len pc L st h = some (o, hf)) : mm_G p l e R s m args below meth c D cs A h0 hf Q x.1.2.2.1 pc L st h := by
  have hl : 1 = len := hl
  subst hl
  obtain ⟨hx, hb, -, hown, hts, -, ho, hK, -⟩ := C
  obtain ⟨v, i, a, r, rfl, hr1⟩ := mm_iir_of (show mm_iir st (fun v i a r => mm_wI h a i v (fun h' => go (pc + 1) L r h')) = some (o, hf) from hr)
  replace hr := hr1
  obtain ⟨n, f, hc, hn, hr⟩ := mm_wI_of hr
  have g := hgo _ _ _ _ hr
  refine ⟨g.1, fun H locs cells slots ls hI hL => ?_⟩
  obtain ⟨Ls, k0, hLs, hP, hD, hk0, hk⟩ := mm_cell hI hc
  exact va_iast hx hb hK hP hD (mm_S_self hI.2.1) k0 0 hk rfl hn hd (fun H1 locs1 hP1 hD1 hS1 => mm_stW g hL hI hLs hc hD hk0 hP1 hD1 hS1)
theorem mm_q_lastore (C : mm_cx p R s m args meth c D cs A h0 hf E x) (hgo : ∀ t L' st' h', go t L' st' h' = some (o, hf) → mm_G p l e R s m args below meth c D cs A h0 hf Q x.1.2.2.1 t L' st' h')
    (hd : decode x.1.2.1 pc = .ok (.lastore, len)) (hl : mm_lk .lastore = len) (hr : mm_stp E cl x go .lastore len pc L st h = some (o, hf)) : mm_G p l e R s m args below meth c D cs A h0 hf Q x.1.2.2.1 pc L st h := by
  have hl : 1 = len := hl
  subst hl
  obtain ⟨hx, hb, -, hown, hts, -, ho, hK, -⟩ := C
  obtain ⟨v, i, a, r, rfl, hr1⟩ := mm_lir_of (show mm_lir st (fun v i a r => mm_wJ h a i v (fun h' => go (pc + 1) L r h')) = some (o, hf) from hr)
  replace hr := hr1
  obtain ⟨n, f, hc, hn, hr⟩ := mm_wJ_of hr
  have g := hgo _ _ _ _ hr
  refine ⟨g.1, fun H locs cells slots ls hI hL => ?_⟩
  obtain ⟨Ls, k0, hLs, hP, hD, hk0, hk⟩ := mm_cell hI hc
  exact va_last hx hb hK hP hD (mm_S_self hI.2.1) k0 1 hk rfl hn hd (fun H1 locs1 hP1 hD1 hS1 => mm_stW g hL hI hLs hc hD hk0 hP1 hD1 hS1)
theorem mm_q_aastore (C : mm_cx p R s m args meth c D cs A h0 hf E x) (hgo : ∀ t L' st' h', go t L' st' h' = some (o, hf) → mm_G p l e R s m args below meth c D cs A h0 hf Q x.1.2.2.1 t L' st' h')
    (hd : decode x.1.2.1 pc = .ok (.aastore, len)) (hl : mm_lk .aastore = len) (hr : mm_stp E cl x go .aastore len pc L st h = some (o, hf)) : mm_G p l e R s m args below meth c D cs A h0 hf Q x.1.2.2.1 pc L st h := by
  have hl : 1 = len := hl
  subst hl
  obtain ⟨hx, hb, -, hown, hts, -, ho, hK, -⟩ := C
  obtain ⟨v, i, a, r, rfl, hr1⟩ := mm_rir_of (show mm_rir st (fun v i a r => mm_wR h a i v (fun h' => go (pc + 1) L r h')) = some (o, hf) from hr)
  replace hr := hr1
  obtain ⟨n, f, fs, hc, hv, hn, hr⟩ := mm_wR_of hr
  have g := hgo _ _ _ _ hr
  refine ⟨g.1, fun H locs cells slots ls hI hL => ?_⟩
  obtain ⟨Ls, k0, hLs, hP, hD, hk0, hk⟩ := mm_cell hI hc
  obtain ⟨k1, hk1⟩ := va_pl_get (X := []) (f := mm_f cs h.1) ((hLs v).mpr (by rw [hv]; exact fun z => by cases z))
  rw [mm_f_at hv] at hk1
  exact va_astq hx hb hK hP hD (mm_S_self hI.2.1) k0 2 k1 5 hk rfl hk1 rfl hn hd (fun H1 locs1 hP1 hD1 hS1 => mm_stW g hL hI hLs hc hD hk0 hP1 hD1 hS1)
theorem mm_q_arraylength (C : mm_cx p R s m args meth c D cs A h0 hf E x) (hgo : ∀ t L' st' h', go t L' st' h' = some (o, hf) → mm_G p l e R s m args below meth c D cs A h0 hf Q x.1.2.2.1 t L' st' h')
    (hd : decode x.1.2.1 pc = .ok (.arraylength, len)) (hl : mm_lk .arraylength = len) (hr : mm_stp E cl x go .arraylength len pc L st h = some (o, hf)) : mm_G p l e R s m args below meth c D cs A h0 hf Q x.1.2.2.1 pc L st h := by
  have hl : 1 = len := hl
  subst hl
  obtain ⟨hx, hb, -, hown, hts, -, ho, hK, -, -, -, ⟨X1, X2, X3⟩, ⟨Y1, Y2⟩, -⟩ := C
  obtain ⟨a, r, rfl, hr1⟩ := mm_r1_of (show mm_r1 st (fun a r => mm_ln E h a (fun v => go (pc + 1) L (.int v :: r) h)) = some (o, hf) from hr)
  replace hr := hr1
  unfold mm_ln at hr
  split at hr
  · next n f hc =>
    have g := hgo _ _ _ _ hr
    refine ⟨g.1, fun H locs cells slots ls hI hL => ?_⟩
    obtain ⟨Ls, k0, -, hP, -, -, hk⟩ := mm_cell hI hc
    exact va_alen hx hb hK hP k0 0 hk rfl rfl hd (g.2 H locs cells slots ls hI hL)
  · next n f hc =>
    have g := hgo _ _ _ _ hr
    refine ⟨g.1, fun H locs cells slots ls hI hL => ?_⟩
    obtain ⟨Ls, k0, -, hP, -, -, hk⟩ := mm_cell hI hc
    exact va_alen hx hb hK hP k0 1 hk rfl rfl hd (g.2 H locs cells slots ls hI hL)
  · next n f hc =>
    have g := hgo _ _ _ _ hr
    refine ⟨g.1, fun H locs cells slots ls hI hL => ?_⟩
    obtain ⟨Ls, k0, -, hP, -, -, hk⟩ := mm_cell hI hc
    exact va_alen hx hb hK hP k0 2 hk rfl rfl hd (g.2 H locs cells slots ls hI hL)
  · split at hr
    · next ha =>
      subst ha
      have g := hgo _ _ _ _ hr
      exact ⟨g.1, fun H locs cells slots ls hI hL => va_slen hx hb X1 X2 X3 hI.2.1 hd (g.2 H locs cells slots ls hI hL)⟩
    · split at hr
      · next ha =>
        subst ha
        have g := hgo _ _ _ _ hr
        exact ⟨g.1, fun H locs cells slots ls hI hL => va_tlen hx hb Y1 hI.2.1 rfl hd (g.2 H locs cells slots ls hI hL)⟩
      · cases hr
  · cases hr
end MMDi
end MMD
