/-! THE LAW's START: the claim out of a run of the mini machine -/
section LAW
variable {s : State} {b L : Nat} {xs : Nat → Int32}
theorem mm_startK (hts : ∀ w ∈ lw_tbl, w.before #[Value.ref b] s = true) : ∃ (D : va_G) (cs : ClassId × ClassId × ClassId), va_K D mm_vc (mm_ty cs) s := by
  have htb : ∀ w ∈ mm_tb, w.before #[Value.ref b] s = true := fun w hw => hts w (List.mem_filter.mp hw).1
  have htw : ∀ w ∈ tables_1, w.before #[Value.ref b] s = true := fun w hw => hts w (List.mem_append_right _ hw)
  have h1 : ∀ c : Nat, ∃ r : ClassId × (Nat → Nat), c < 10 → u_Kn s (mm_vcn c).1 (mm_vcn c).2.1 (mm_vcn c).2.2 r.1 r.2 := by
    intro c
    by_cases hc : c < 10
    · have hi : (List.range 10).all (fun c => mm_has (10, c, 0, 0)) = true := by decide +kernel
      have hi := List.all_eq_true.mp hi c (List.mem_range.mpr hc)
      have hw : Cond.instantiable (mm_vcn c).1 (mm_vcn c).2.2 ∈ tables_1 := mm_ca_mem (mm_has_mem hi) (show ¬ (10 : Nat) = 0 by decide)
      obtain ⟨cC, iS, h⟩ := u_known (C := (mm_vcn c).1) (T := (mm_vcn c).2.1) (N := (mm_vcn c).2.2) htb (mm_lays hc) (htw _ hw)
      exact ⟨(cC, iS), fun _ => h⟩
    · exact ⟨(0, fun _ => 0), fun z => absurd z hc⟩
  obtain ⟨r, hr⟩ := Classical.axiomOfChoice h1
  obtain ⟨cI, kI, compI, i1, i2, i3⟩ := Cond.arrayClass_spec (htw (.arrayClass .int) (List.mem_of_getElem? (i := 64) (by decide +kernel)))
  obtain ⟨cJ, kJ, compJ, j1, j2, j3⟩ := Cond.arrayClass_spec (htw (.arrayClass .long) (List.mem_of_getElem? (i := 187) (by decide +kernel)))
  obtain ⟨compR, cR, kR, r1, -, r2, r3, r4⟩ := Cond.arrayOver_spec (htw (.arrayOver (.object "PromisedStock$Row")) (List.mem_of_getElem? (i := 172) (by decide +kernel)))
  refine ⟨(fun c => (r c).1, fun c => (r c).2), (cI, cJ, cR), fun c q hq => ?_, fun k q hk => ?_⟩
  · have hc : c < 10 := (List.getElem?_eq_some_iff.mp hq).1
    have e : mm_vcn c = q := by
      unfold mm_vcn
      rw [List.getD_eq_getElem?_getD, hq]
      rfl
    rw [← e]
    exact hr c hc
  · match k, hk with
    | 0, hk => cases hk; exact ⟨fun n z => ⟨fun k h => (by cases h), kI, i2, compI, i3⟩, i1⟩
    | 1, hk => cases hk; exact ⟨fun n z => ⟨fun k h => (by cases h), kJ, j2, compJ, j3⟩, j1⟩
    | 2, hk => cases hk; exact ⟨fun n z => ⟨fun k h => (by cases h), kR, r2, compR, r3⟩, kR, compR, r2, r3, r1, r4⟩
    | k + 3, hk => cases hk
/-- one text of a place -/
theorem mm_oneT {A : Nat → Prop} {H : Heap} {v v' a : Nat} {t t' : List Int32} (h1 : va_OF "java/lang/String" "value" "[B" (.ref v) a A s H) (h2 : va_OF "java/lang/String" "value" "[B" (.ref v') a A s H) (h3 : va_T .byte v t.length (fun j => .int (t.getD j 0)) A s H) (h4 : va_T .byte v' t'.length (fun j => .int (t'.getD j 0)) A s H) (l1 : t.length < 1000) (l2 : t'.length < 1000) : t = t' := by
  obtain ⟨c1, k1, i1, f1, e1, a1, -, b1, -, d1, -⟩ := h1
  obtain ⟨c2, k2, i2, f2, e2, a2, -, b2, -, d2, -⟩ := h2
  cases a1.symm.trans a2
  cases b1.symm.trans b2
  cases d1.symm.trans d2
  obtain ⟨x1, p1, -, -, -, p2, p3, -⟩ := h3
  obtain ⟨x2, q1, -, -, -, q2, q3, -⟩ := h4
  cases p1.symm.trans q1
  have hl : t.length = t'.length := by
    have e := congrArg Int32.toInt (p2.symm.trans q2)
    rw [Int32.toInt_ofNat_of_lt (by omega), Int32.toInt_ofNat_of_lt (by omega)] at e
    omega
  apply List.ext_getElem hl
  intro i h5 h6
  have e := (p3 i h5).symm.trans (q3 i h6)
  have e := Value.int.inj (Option.some.inj e)
  rw [List.getD_eq_getElem?_getD, List.getD_eq_getElem?_getD, List.getElem?_eq_getElem h5, List.getElem?_eq_getElem h6] at e
  exact e
theorem mm_start (hts : ∀ w ∈ lw_tbl, w.before #[Value.ref b] s = true) (hgv : (Jvm.Cond.and given_1 narrow_1).before #[Value.ref b] s = true) (hX : va_X b L xs s s.heap) (hb : b < s.heap.size) (hL : L ≤ 3072) :
    ∃ E : mm_E, E.1 = (b, L, xs) ∧ mm_OKE E ∧ E.2.1 < s.heap.size ∧ mm_RO E (mm_A (fun _ => none) s.heap.size) s s.heap := by
  have hA : ∀ a : Nat, a < s.heap.size → ¬ mm_A (fun _ => none) s.heap.size a := fun a ha h => h.elim (fun z => z rfl) (fun z => by omega)
  have htw : ∀ w ∈ tables_1, w.before #[Value.ref b] s = true := fun w hw => hts w (List.mem_append_right _ hw)
  have hs : ∀ c ∈ flatC narrow_1, c.before #[Value.ref b] s = true := fun c hc => flat_of_before _ hgv c (List.mem_append_right _ hc)
  have hw : ∀ q : Nat × Nat × Nat, mm_fh q = true → ¬ q.1 = 0 → (mm_fw q).before #[Value.ref b] s = true := fun q h1 h0 => hs _ (mm_fc_mem (mm_fh_mem h1) h0)
  have h6 : (List.range 7).all (fun j => mm_fh (6, 0, j)) = true := by decide +kernel
  obtain ⟨tM, htM, hTM⟩ := va_Tof (args := #[Value.ref b]) (s := s) (tm := .static "PromisedStock" "MOST" "[I") (ty := .int) (N := 7) (f := fun j => .int (mm_most.getD j 0)) (A := mm_A (fun _ => none) s.heap.size) (by decide) (hw (7, 0, 0) (by decide +kernel) (by decide)) (va_eqt (hw (8, 0, 0) (by decide +kernel) (by decide))) (fun j hj => va_eqt (hw (6, 0, j) (List.all_eq_true.mp h6 j (List.mem_range.mpr hj)) (show ¬ (6 : Nat) = 0 by decide))) hA
  have hMs : tM < s.heap.size := by
    obtain ⟨cell, h1, -⟩ := hTM
    exact (Array.getElem?_eq_some_iff.mp h1).1
  have hS : ∀ i : Nat, ∃ r : Nat × Nat, i < 56 → (Term.string (mm_cn (mm_sc.getD i (0, 0, "", 0)).1) (mm_sc.getD i (0, 0, "", 0)).2.1).eval #[Value.ref b] s none [] s = some (.ref r.1) ∧ va_O "java/lang/String" r.1 (mm_A (fun _ => none) s.heap.size) s s.heap ∧ va_OF "java/lang/String" "coder" "B" (.int 0) r.1 (mm_A (fun _ => none) s.heap.size) s s.heap ∧ va_OF "java/lang/String" "value" "[B" (.ref r.2) r.1 (mm_A (fun _ => none) s.heap.size) s s.heap ∧ va_T .byte r.2 (mm_tx.getD i []).length (fun j => .int ((mm_tx.getD i []).getD j 0)) (mm_A (fun _ => none) s.heap.size) s s.heap := by
    intro i
    by_cases hi : i < 56
    · have hf := List.all_eq_true.mp mm_fall i (List.mem_range.mpr hi)
      rw [Bool.and_eq_true, Bool.and_eq_true, Bool.and_eq_true, Bool.and_eq_true] at hf
      obtain ⟨f1, f2, f3, f4, f5⟩ := hf
      have hk := List.all_eq_true.mp mm_tx_ok i (List.mem_range.mpr hi)
      rw [Bool.and_eq_true] at hk
      have hk := Nat.le_of_ble_eq_true hk.1
      obtain ⟨adK, adV, g1, g2⟩ := vk_Sof (args := #[Value.ref b]) (s := s) (N := 1) (tm := fun _ => .string (mm_cn (mm_sc.getD i (0, 0, "", 0)).1) (mm_sc.getD i (0, 0, "", 0)).2.1) (len := [(mm_tx.getD i []).length]) (byt := [mm_tx.getD i []]) (A := mm_A (fun _ => none) s.heap.size)
        (fun z hz => by
          have e : z = 0 := by omega
          subst e
          show (mm_tx.getD i []).length < 2 ^ 31
          omega) (fun z _ => hw (1, i, 0) f1 (show ¬ (1 : Nat) = 0 by decide)) (fun z _ => hw (2, i, 0) f2 (show ¬ (2 : Nat) = 0 by decide)) (fun z _ => hw (3, i, 0) f3 (show ¬ (3 : Nat) = 0 by decide))
        (fun z hz => by
          have e : z = 0 := by omega
          subst e
          exact hw (4, i, 0) f4 (show ¬ (4 : Nat) = 0 by decide))
        (fun z hz j hj => by
          have e : z = 0 := by omega
          subst e
          exact hw (5, i, j) (List.all_eq_true.mp f5 j (List.mem_range.mpr hj)) (show ¬ (5 : Nat) = 0 by decide))
        (fun z w hz hw2 hne => absurd (show z = w by omega) hne) hA
      exact ⟨(adK 0, adV 0), fun _ => ⟨g2 0 (by omega), g1.1 0 (by omega)⟩⟩
    · exact ⟨(0, 0), fun z => absurd z hi⟩
  obtain ⟨ad, had⟩ := Classical.axiomOfChoice hS
  have hlen : ∀ i, i < 56 → (mm_tx.getD i []).length < 1000 ∧ ∀ j, j < (mm_tx.getD i []).length → ((mm_tx.getD i []).getD j 0) &&& 255 = (mm_tx.getD i []).getD j 0 := by
    intro i hi
    have hk := List.all_eq_true.mp mm_tx_ok i (List.mem_range.mpr hi)
    rw [Bool.and_eq_true] at hk
    refine ⟨Nat.le_of_ble_eq_true hk.1, fun j hj => ?_⟩
    have e : (mm_tx.getD i []).getD j 0 = (mm_tx.getD i [])[j] := by rw [List.getD_eq_getElem?_getD, List.getElem?_eq_getElem hj]; rfl
    rw [e]
    exact of_decide_eq_true (List.all_eq_true.mp hk.2 _ (List.getElem_mem hj))
  have hT : ∀ a : Nat, ∃ o : Option (List Int32), (∀ t, o = some t → ∃ i, i < 56 ∧ (ad i).1 = a ∧ t = mm_tx.getD i []) ∧ ∀ i, i < 56 → (ad i).1 = a → o = some (mm_tx.getD i []) := by
    intro a
    by_cases h : ∃ i, i < 56 ∧ (ad i).1 = a
    · obtain ⟨i, hi, e⟩ := h
      refine ⟨some (mm_tx.getD i []), fun t ht => ⟨i, hi, e, (Option.some.inj ht).symm⟩, fun j hj ej => ?_⟩
      obtain ⟨-, -, -, u1, u2⟩ := had i hi
      obtain ⟨-, -, -, w1, w2⟩ := had j hj
      rw [e] at u1
      rw [ej] at w1
      exact congrArg some (mm_oneT u1 w1 u2 w2 (hlen i hi).1 (hlen j hj).1)
    · exact ⟨none, (fun t ht => (by cases ht)), fun i hi e => absurd ⟨i, hi, e⟩ h⟩
  obtain ⟨tx, htx⟩ := Classical.axiomOfChoice hT
  refine ⟨((b, L, xs), tM, fun i => (ad i).1, tx), rfl, ⟨fun i hi => (htx (ad i).1).2 i hi rfl, fun e => ?_⟩, hMs, ⟨hX, hb, hA b hb⟩, ⟨hTM, hMs⟩, va_Zref (htw (.laysStatic "PromisedStock" "MOST" "[I") (List.mem_of_getElem? (i := 353) (by decide +kernel))) (htw (.initialized "PromisedStock") (List.mem_of_getElem? (i := 1) (by decide +kernel))) htM hA, fun i q hq => ?_, va_AO.of (htw (.arrayOver (.object "PromisedStock$Row")) (List.mem_of_getElem? (i := 172) (by decide +kernel))), fun q hq h2 => ?_, fun a t ht => ?_,
    va_Zof (htw (.laysStatic "java/lang/String" "COMPACT_STRINGS" "Z") (List.mem_of_getElem? (i := 724) (by decide +kernel))) (htw (.initialized "java/lang/String") (List.mem_of_getElem? (i := 17) (by decide +kernel))) (va_eqt (hw (11, 0, 0) (by decide +kernel) (by decide))) hA,
    va_Zqof (htw (.laysStatic "jdk/internal/util/Preconditions" "SIOOBE_FORMATTER" "Ljava/util/function/BiFunction;") (List.mem_of_getElem? (i := 740) (by decide +kernel))) (htw (.initialized "jdk/internal/util/Preconditions") (List.mem_of_getElem? (i := 19) (by decide +kernel))) (hw (12, 0, 0) (by decide +kernel) (by decide)) hA,
    vx_Zqof (htw (.laysStatic Bundle.tN "UNASSIGNED_STACK" Bundle.steD) (List.mem_of_getElem? (i := 643) (by decide +kernel))) (htw (.initialized Bundle.tN) (List.mem_of_getElem? (i := 11) (by decide +kernel))) (hw (9, 0, 0) (by decide +kernel) (by decide)) hA,
    vx_Zqof (htw (.laysStatic Bundle.tN "SUPPRESSED_SENTINEL" Bundle.listD) (List.mem_of_getElem? (i := 645) (by decide +kernel))) (htw (.initialized Bundle.tN) (List.mem_of_getElem? (i := 11) (by decide +kernel))) (hw (10, 0, 0) (by decide +kernel) (by decide)) hA,
    va_Nc.of (hw (13, 0, 0) (by decide +kernel) (by decide)), va_Nc.of (hw (14, 0, 0) (by decide +kernel) (by decide)), fun w hw2 => va_Nw.of (th_nb_o w hw2) (htw w (th_byp (L := mm_nb) [850, 618, 620, 622, 624] (by decide +kernel) w hw2))⟩
  · have e : tM = b := e
    obtain ⟨scr, x1, -, -, x4, x5⟩ := hX
    obtain ⟨cell, y1, -, -, -, y5, y6, -⟩ := hTM
    rw [e] at y1
    cases x1.symm.trans y1
    rw [x4] at y5
    have h7 : L = 7 := by
      have z := congrArg Int32.toInt (show Int32.ofNat L = Int32.ofNat 7 from y5)
      rw [Int32.toInt_ofNat_of_lt (by omega), Int32.toInt_ofNat_of_lt (by omega)] at z
      omega
    refine ⟨h7, fun j hj => ?_⟩
    have z := (x5 j (by omega)).symm.trans (y6 j hj)
    exact Value.int.inj (Option.some.inj z)
  · have hi : i < 56 := by rw [← mm_sc_len.1]; exact (List.getElem?_eq_some_iff.mp hq).1
    have e : mm_sc.getD i (0, 0, "", 0) = q := by rw [List.getD_eq_getElem?_getD, hq]; rfl
    have h1 := (had i hi).1
    have h2 : Cond.stringRef (mm_cn (mm_sc.getD i (0, 0, "", 0)).1) (mm_sc.getD i (0, 0, "", 0)).2.1 (mm_sc.getD i (0, 0, "", 0)).2.2.1 ∈ tables_1 := mm_ca_mem (mm_has_mem (List.all_eq_true.mp mm_sc_ref i (List.mem_range.mpr hi))) (show ¬ (15 : Nat) = 0 by decide)
    rw [e] at h1 h2
    exact vk_R.of (htw _ h2) h1
  · have h3 : mm_wd q ∈ tables_1 := mm_ca_mem hq (by omega)
    obtain ⟨q1, q2⟩ := q
    have h2 : q1 = 2 := h2
    subst h2
    exact va_Nw.of rfl (htw _ h3)
  · obtain ⟨i, hi, e1, e2⟩ := (htx a).1 t ht
    obtain ⟨-, u1, u2, u3, u4⟩ := had i hi
    subst e2
    subst e1
    exact ⟨(ad i).2, u1, u2, u3, u4, (hlen i hi).1, (hlen i hi).2⟩
end LAW
/-! THE CLAIM OUT OF ONE WALK OF THE LAW'S BODY (the skeleton's text; lw_At says the method's name beside) -/
def R_law : String := "PromisedStockLaw"
def lw_P (b : Addr) (xs : List Int32) (args : Array Value) (s : State) : Prop := args = #[.ref b] ∧ s.IntsAt b xs ∧ xs.length ≤ 3072 ∧ (Jvm.Cond.and given_1 narrow_1).before args s = true
def lw_Q (_ : Array Value) (s : State) (o : Outcome) (t : State) : Prop := o = .returned (some (.int 1)) ∧ Framed s o t [] 601024 7293034
def lw_Z (below : List Frame) (a : Array Value) (s : State) : State → Prop := fun t => ∃ o, t.status = .running ∧ Ended t below o ∧ lw_Q a s o t
theorem lw_ret {p : Program} {l : Launch} {e : Env} {s : State} {m : MethodId} {below : List Frame} {meth : Method} {c : Code} {b : Nat} (hx : p.tables.exec = Jvm.exec) (hb : c.code = code) (hr : meth.sig.returnType = ret) (hlocks : meth.locks = false) {pc : Nat} {H : Heap} {ls : Array Slot} (hdg : decode code pc = .ok (.ireturn, 1)) : W p l e room_1 s m #[Value.ref b] below meth c H [] 601024 7293034 (lw_Z below #[Value.ref b] s) (F0 m pc ls [.int 1]) := by
  intro T hT X
  obtain ⟨fs, hret, hrun, hended, hW, hframe⟩ := X.leave (v := some (.int 1)) (hlocks := hlocks) (fun h => by rw [hr] at h; cases h)
  have hmeth' : T.vm.method? m = some meth := X.method'
  refine ⟨T.setFrames fs, ?_, .returned (some (.int 1)), hrun, hended, rfl, ⟨_, rfl⟩, hW, hframe⟩
  jvm_step X.here [X.here.top, hx, hb, hdg, hmeth', hr, ret, narrow_b1]
  (try refine ⟨rfl, ?_⟩); (try refine ⟨rfl, ?_⟩)
  first | (intro acts; rw [hret _ acts rfl rfl rfl]) | rw [hret _ _ rfl rfl rfl]
  exact Steps.refl _
def lw_At (p : Program) (s : State) (m : MethodId) (meth : Method) (c : Code) (b L : Nat) (xs : Nat → Int32) : Prop :=
  p.tables.exec = Jvm.exec ∧ c.code = code ∧ meth.sig.returnType = ret ∧ c.maxLocals = 7 ∧ s.vm.findClass R_law = some m.cls ∧ (∀ w ∈ lw_tbl, w.before #[Value.ref b] s = true) ∧ va_X b L xs s s.heap ∧ b < s.heap.size ∧ meth.locks = false ∧ (Jvm.Cond.and given_1 narrow_1).before #[Value.ref b] s = true ∧ meth.name = "law"
section WS
variable {p : Program} {e : Env} {s : State} {m : MethodId} {below : List Frame} {meth : Method} {c : Code} {l : Launch} {b : Nat} {D : va_G} {cs : ClassId × ClassId × ClassId} {E : mm_E} {hf : mm_H}
theorem ws_C (hx : p.tables.exec = Jvm.exec) (hb : c.code = code) (hml : c.maxLocals = 7) (hown : s.vm.findClass R_law = some m.cls) (hts : ∀ w ∈ lw_tbl, w.before #[Value.ref b] s = true) (hname : meth.name = "law") (hK : va_K D mm_vc (mm_ty cs) s) (hc1 : hf.2.2.1 ≤ 601024) (hc2 : hf.2.2.2 ≤ 7293034) (hRO : mm_RO E (mm_A (fun _ => none) s.heap.size) s s.heap) : mm_cx p room_1 s m #[Value.ref b] meth c D cs (mm_A (mm_h0 s.heap.size).1 s.heap.size) (mm_h0 s.heap.size) hf E mm_m282 :=
    ⟨hx, hb, hml, hown, fun w hw => hts w (List.mem_filter.mp hw).1, hname, by show (10 : Nat) < 14; omega, hK, fun q hq => Or.inr hq, ⟨Nat.le_trans (show hf.2.2.1 ≤ room_1.cells from hc1) (Nat.le_add_left _ _), Nat.le_trans (show hf.2.2.2 ≤ room_1.slots from hc2) (Nat.le_add_left _ _)⟩, ⟨by show 12 ≤ 2048; omega, by show 200 ≤ 84000; omega⟩, hRO⟩
theorem ws_HT  : mm_HT p l e room_1 s m #[Value.ref b] below meth c D cs (mm_A (mm_h0 s.heap.size).1 s.heap.size) (mm_h0 s.heap.size) hf (lw_Z below #[Value.ref b] s) (.inl (some (.int 1))) mm_m282 := by
    intro y i len pc H locs cells slots ls rest q ce hth
    exact absurd (show (some ((.inr y : mm_O), hf) : mm_R) = some (.inl (some (.int 1)), hf) from hth) (fun z => by cases z)
theorem ws_HN  : mm_HN p l e room_1 s m #[Value.ref b] below meth c D cs (mm_A (mm_h0 s.heap.size).1 s.heap.size) (mm_h0 s.heap.size) hf (lw_Z below #[Value.ref b] s) (.inl (some (.int 1))) mm_m282 := by
    intro q k pc h H locs cells slots ls st hfi
    cases hfi
theorem ws_HR (hx : p.tables.exec = Jvm.exec) (hb : c.code = code) (hr : meth.sig.returnType = ret) (hlocks : meth.locks = false) (hc1 : hf.2.2.1 ≤ 601024) (hc2 : hf.2.2.2 ≤ 7293034) : mm_HR p l e room_1 s m #[Value.ref b] below meth c D cs (mm_A (mm_h0 s.heap.size).1 s.heap.size) (mm_h0 s.heap.size) hf (lw_Z below #[Value.ref b] s) (.inl (some (.int 1))) mm_m282 := by
    intro v pc H locs cells slots ls ho hv hI
    have ho : some (Value.int 1) = v := Sum.inl.inj ho
    subst ho
    have e1 : (0 : Nat) + cells = hf.2.2.1 := hI.2.2.2.1
    have e2 : (0 : Nat) + slots = hf.2.2.2 := hI.2.2.2.2
    rcases hv with ⟨hv, -⟩ | ⟨z, hz, hd, -⟩
    · cases hv
    · refine va_forget (fun q hq => ?_) (W.widen (k := 601024) (n := 7293034) (by omega) (by omega) (lw_ret hx hb hr hlocks hd))
      rcases hI.2.1.2.2 q hq with h9 | h9
      · exact absurd rfl h9
      · exact h9
end WS
set_option maxHeartbeats 4000000 in
set_option maxRecDepth 100000 in
theorem whole_start (PU : mm_PU) {p : Program} {e : Env} {s : State} {m : MethodId} {below : List Frame} {meth : Method} {c : Code} (l : Launch) (hflags : l.flags = flags0) {b L : Nat} {xs : Nat → Int32} (hL : L ≤ 3072) (C0 : lw_At p s m meth c b L xs) : W p l e room_1 s m #[Value.ref b] below meth c s.heap [] 0 0 (lw_Z below #[Value.ref b] s) (entryFrame m ([Value.ref b] : List Value).toArray 7) := by
  obtain ⟨hx, hb, hr, hml, hown, hts, hX, hbl, hlocks, hgv, hname⟩ := C0
  obtain ⟨D, cs, hK⟩ := mm_startK hts
  obtain ⟨E, hE1, hOK, hE2, hRO⟩ := mm_start hts hgv hX hbl hL
  obtain ⟨n, hf, hrun, hc1, hc2⟩ := PU E s.heap.size hOK (by rw [hE1]; exact hL) (by rw [hE1]; exact hbl) hE2
  have hE : E.1.1 = b := by rw [hE1]
  rw [hE] at hrun
  have hl : l.stackTraces = false := by
    unfold Launch.stackTraces
    rw [hflags]
    decide +kernel
  have HA := mm_Cl_all (l := l) (E := E) (D := D) (cs := cs) (fun j _ => mm_dc_all j) (mm_AN_ok hl) mm_AS_ok mm_AT_ok
  have HC : mm_Cl l E D cs (lw_cl E) 101 := fun j as h h' o hj hj2 hev => by
    by_cases q : 262 ≤ j
    · rw [lw_hi E j q] at hev
      exact HA 101 j as h h' o hj hj2 hev
    · rw [lw_lo E j (by omega)] at hev
      obtain ⟨z1, z2, dd, z3, z4⟩ := HA 100 j as h h' o hj hj2 hev
      exact ⟨z1, z2, dd, by omega, z4⟩
  have C := ws_C (E := E) hx hb hml hown hts hname hK hc1 hc2 hRO
  have HT := ws_HT (p := p) (e := e) (s := s) (m := m) (below := below) (meth := meth) (c := c) (l := l) (b := b) (D := D) (cs := cs) (hf := hf)
  have HN := ws_HN (p := p) (e := e) (s := s) (m := m) (below := below) (meth := meth) (c := c) (l := l) (b := b) (D := D) (cs := cs) (hf := hf)
  have HR := ws_HR (e := e) (m := m) (below := below) (l := l) (b := b) (D := D) (cs := cs) (s := s) hx hb hr hlocks hc1 hc2
  have g := mm_snd_run mm_dl C HC ⟨by show 114 ≤ 2048; omega, by show 60 * 101 + 240 ≤ 84000; omega⟩ HT (mm_AS_ok p e room_1 s m _ below meth c (mm_h0 s.heap.size) hf _ mm_m282 C) HN HR n 0 _ _ _ hrun
  rw [lg_entry_eq]
  refine g.2 s.heap [] 0 0 _ ⟨⟨[], fun a => ⟨fun z => absurd z List.not_mem_nil, fun z => absurd rfl z⟩, (fun k q hk => (by cases hk)), ⟨(fun i j p q hi => (by cases hi)), (fun k q hk => (by cases hk))⟩⟩, va_S.rf, fun n9 hn9 => ?_, rfl, rfl⟩ (mm_ent_lr (by show 1 ≤ 7; omega))
  have hn9 : some s.heap.size = some n9 := hn9
  cases hn9
  exact ⟨rfl, rfl, fun z => by cases z⟩
