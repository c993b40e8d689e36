/-! THROWS of the class: new; dup; ldc; invokespecial; athrow (the constructor's way up: the library's laws of it; the first link of any index) -/
def th_R : String := "java/lang/RuntimeException"
def th_oa (ic : Nat) (X : String) (ix : Nat) (bytes : ByteArray) : List Cond :=
  Bundle.throwableAtoms ++ Bundle.throwableSAtoms ++ (Bundle.passSAtoms X th_R ix bytes ++ Bundle.chainSAtoms th_R ["java/lang/Exception"]) ++
  [.methodLink "PromisedStock" ic (Bundle.initS X), .instantiable X 6, .castable X X, .selects X Bundle.tFill0 Bundle.tFill0, .selects X Bundle.tFill Bundle.tFill,
   .lays X Bundle.tN "cause" "Ljava/lang/Throwable;", .lays X Bundle.tN "stackTrace" Bundle.steD, .lays X Bundle.tN "suppressedExceptions" Bundle.listD, .lays X Bundle.tN "detailMessage" "Ljava/lang/String;",
   .isRef (.static Bundle.tN "UNASSIGNED_STACK" Bundle.steD), .isRef (.static Bundle.tN "SUPPRESSED_SENTINEL" Bundle.listD),
   .fieldLink Bundle.tN 198 Bundle.tN "backtrace" "Ljava/lang/Object;", .lays Bundle.tN Bundle.tN "backtrace" "Ljava/lang/Object;", .lays X Bundle.tN "backtrace" "Ljava/lang/Object;"]
def th_ot (bytes : ByteArray) (ix : Nat) : Prop := decode bytes 0 = .ok (.aload_n 0, 1) ∧ decode bytes 1 = .ok (.aload_n 1, 1) ∧ decode bytes 2 = .ok (.invokespecial ix, 3) ∧ decode bytes 5 = .ok (.return_, 1)
section TH1
variable {p : Program} {l : Launch} {e : Env} {R : Room} {s : State} {m₀ : MethodId} {args : Array Value} {below : List Frame} {meth : Method} {c : Code} {W' : State} {locs : List Loc} {cells slots : Nat}
set_option maxHeartbeats 2000000 in
theorem th_ctor (X : Stand p l e R s m₀ args below meth c W' locs cells slots) (hexec : p.tables.exec = Jvm.exec) (htr : e.platform.stackTraces = false) {cls : String} {ic ix : Nat} {bytes : ByteArray}
    (hown : s.vm.findClass "PromisedStock" = some m₀.cls) (hcls : Bundle.fit cls = true) (hby : th_ot bytes ix)
    (h : ∀ a ∈ th_oa ic cls ix bytes, a.before args s = true)
    (hlocs : ∀ x ∈ locs, ∀ cell, s.heap[x.base]? = some cell → cell.vm.isStatics = false)
    {a : Addr} {cX : ClassId} {kX : Class} (hfoundX : s.vm.findClass cls = some cX) (hkX : s.vm.classes[cX]? = some kX) (hcell : W'.heap[a]? = some (freshCell cX kX)) (hnew : s.heap.size ≤ a)
    {msg : Value} (hmsg : msg.isRef = true)
    {g : JFrame} (hg : g.method = m₀) (hsize : g.locals.size = c.maxLocals) (hlocked : g.locked = none) (hentered : g.entered = []) {rest : List Value} (hstack : g.stack = msg :: .ref a :: .ref a :: rest)
    (hd6 : decode c.code g.pc = .ok (.invokespecial ic, 3)) (hd9 : decode c.code (g.pc + 3) = .ok (.athrow, 1)) (hout : ∀ x ∈ c.exceptionTable.toList, covers x (g.pc + 3) = false)
    (hRframes : 5 < R.frames) (hRlocals : 2 * g.monitorRoom + ((Value.ref a :: rest).map fun v => v.category).sum + 81 ≤ R.locals) (hlocks : meth.locks = false) :
    ∃ U : State, Steps p.tables e below (W'.setTop g) U ∧ U.status = .running ∧ Ended U below (.threw a) ∧ s.WarmedH U.vm ∧ s.sameButNew ({ U with vm := s.vm } : State) locs cells slots ∧
      ∃ ce, U.heap[a]? = some ce ∧ ce.vm = .none ∧ s.vm.findClass cls = some ce.cls := by
  have howns : e.platform.frameOwnsMonitors = true := by rw [X.admits.platform]
  have hfin : e.platform.finalization = false := by rw [X.admits.platform]
  have hpl : e.platform.magicAccessors = ({} : Platform).magicAccessors := by rw [X.admits.platform]
  have hc : ∀ x, x ∈ th_oa ic cls ix bytes → x.holds args s none s [] = true := fun x hx => h x hx
  obtain ⟨T, Z0, L, -, Y⟩ := ThrowableC.of_atoms (args := args) howns hfin hpl (fun x hx => h x (by simp [th_oa, hx]))
  obtain ⟨Z, M, LZ, LM, hnZ⟩ := Init0T.ofS_atoms (args := args) hpl L Y (fun x hx => h x (by simp [th_oa, hx]))
  obtain ⟨P2, Ps2, hlen2, L2, hL2, hP2m, hlink2, hpass2⟩ := Bundle.chainS (args := args) hpl hnZ ["java/lang/Exception"] th_R (by decide) (by decide) (fun x hx => h x (by simp [th_oa, hx]))
  obtain ⟨P1, L1, hP1m, hs1⟩ := PassC.ofS_atoms (args := args) (s := s) hpl (X := cls) (Y := th_R) (Bundle.fit_spec hcls).1 (by decide) hby.1 hby.2.1 hby.2.2.1 hby.2.2.2 (fun x hx => h x (by simp [th_oa, hx]))
  have hlink1 : P1.sup = P2.m := Option.some.inj (hs1.symm.trans hP2m)
  have hlen2 : Ps2.length = 1 := hlen2
  have hfound : s.vm.findClass cls = some P1.m.cls := findClass_of_methodNamed hP1m
  cases Option.some.inj (hfoundX.symm.trans hfound)
  obtain ⟨c1, kX', hc1, hk, hord, -, -, hn6⟩ := Cond.instantiable_spec (hc (.instantiable cls 6) (by simp [th_oa]))
  cases Option.some.inj (hc1.symm.trans hfound)
  cases Option.some.inj (hkX.symm.trans hk)
  have hsel0 : selectMethod e.platform s.vm P1.m.cls T.fill0 = .method T.fill0 := by
    obtain ⟨c2, r2, m2, q1, q2, q3, q4, -⟩ := Cond.selects_spec (hc (.selects cls Bundle.tFill0 Bundle.tFill0) (by simp [th_oa]))
    cases Option.some.inj (q1.symm.trans hfound)
    cases Option.some.inj (q2.symm.trans (State.methodFound?_of_named Y.fill0 (by decide)))
    cases Option.some.inj (q3.symm.trans Y.fill0)
    rw [Launch.admits_selectMethod X.admits]; exact q4
  have hselF : selectMethod e.platform s.vm P1.m.cls T.fill = .method T.fill := by
    obtain ⟨c2, r2, m2, q1, q2, q3, q4, -⟩ := Cond.selects_spec (hc (.selects cls Bundle.tFill Bundle.tFill) (by simp [th_oa]))
    cases Option.some.inj (q1.symm.trans hfound)
    cases Option.some.inj (q2.symm.trans (State.methodFound?_of_named Y.fill (by decide)))
    cases Option.some.inj (q3.symm.trans Y.fill)
    rw [Launch.admits_selectMethod X.admits]; exact q4
  obtain ⟨cellS0, hcS0, hiss⟩ := Y.statics
  obtain ⟨u0, hu0⟩ := Cond.staticRefV Y.unassigned L.unassignedStatic L.statics hcS0 hiss (hc (.isRef (.static Bundle.tN "UNASSIGNED_STACK" Bundle.steD)) (by simp [th_oa]))
  obtain ⟨sen, hsen⟩ := Cond.staticRefV Y.sentinel L.sentinelStatic L.statics hcS0 hiss (hc (.isRef (.static Bundle.tN "SUPPRESSED_SENTINEL" Bundle.listD)) (by simp [th_oa]))
  obtain ⟨ci198, i198, fB, hk198, hg198, ha198, hsB, -, hnB, htB, hffB⟩ := Cond.ownField (t := .object "java/lang/Object") Y.found L.cls (by decide +kernel) (hc (.fieldLink Bundle.tN 198 Bundle.tN "backtrace" "Ljava/lang/Object;") (by simp [th_oa])) (hc (.lays Bundle.tN Bundle.tN "backtrace" "Ljava/lang/Object;") (by simp [th_oa])) e.platform hpl
  obtain ⟨cellS, hcS', heS, -, hkeep⟩ := X.same.2.2.2.2.2 T.aS cellS0 hcS0
  have hcellS : W'.heap[T.aS]? = some cellS := hcS'
  have hout' : ∀ i, (⟨T.aS, i⟩ : Loc) ∉ locs := fun i hmem => by
    have := hlocs _ hmem cellS0 hcS0
    rw [hiss] at this; cases this
  have hknownS : cellS.vm ≠ .unknown := by
    rw [heS]; intro hu
    rw [show cellS0.vm = .unknown from hu] at hiss
    cases hiss
  have hneS : T.aS ≠ a := Nat.ne_of_lt (Nat.lt_of_lt_of_le (Array.getElem?_eq_some_iff.mp hcS0).1 hnew)
  obtain ⟨iM, hffM⟩ := Y.msg
  obtain ⟨tyC, dC, hdC, hdnC⟩ := Cond.laysAt hfound hk Y.cause (hc (.lays cls Bundle.tN "cause" "Ljava/lang/Throwable;") (by simp [th_oa]))
  obtain ⟨tyS, dS, hdS, hdnS⟩ := Cond.laysAt hfound hk Y.stack (hc (.lays cls Bundle.tN "stackTrace" Bundle.steD) (by simp [th_oa]))
  obtain ⟨tyP, dP, hdP, hdnP⟩ := Cond.laysAt hfound hk Y.supp (hc (.lays cls Bundle.tN "suppressedExceptions" Bundle.listD) (by simp [th_oa]))
  obtain ⟨tyM, dM, hdM, hdnM⟩ := Cond.laysAt hfound hk hffM (hc (.lays cls Bundle.tN "detailMessage" "Ljava/lang/String;") (by simp [th_oa]))
  obtain ⟨tyB, dB, hdB, hdnB⟩ := Cond.laysAt hfound hk hffB (hc (.lays cls Bundle.tN "backtrace" "Ljava/lang/Object;") (by simp [th_oa]))
  have bC := Cond.laysApart hdB hdC hdnB hdnC (by rw [hnB, Y.causeName]; decide)
  have bS := Cond.laysApart hdB hdS hdnB hdnS (by rw [hnB, Y.stackName]; decide)
  have bP := Cond.laysApart hdB hdP hdnB hdnP (by rw [hnB, Y.suppName]; decide)
  have hskip : SkipFacts T e.platform s (fun u => u) u0 ((preparedCellV T.toThrowableT (freshCell P1.m.cls kX) a u0 sen).withEntry W'.cur) :=
    ⟨{ ci198 := ci198, i198 := i198, fBack := fB }, ⟨hk198, hg198, ha198, hsB⟩, by
      have := fresh_default (c := P1.m.cls) tyB
      rw [htB] at this
      simpa [preparedCellV, Cell.setSlot, Cell.withEntry, Array.getElem?_setIfInBounds, bC, bS, bP, bC.symm, bS.symm, bP.symm, defaultValue] using this, fun _ _ => rfl⟩
  obtain ⟨tm, methC, cdC, kC, vm₁, hnC, -, -, -, -, -, -, -, hW₁, st1⟩ := Steps.initColdS (tb := p.tables) (e := e) (below := below) (s := s) (U := W') X.here hexec X.warmed hpl hown (t := Bundle.initS cls) rfl rfl (Bundle.fit_spec hcls).2
    (hc (.methodLink "PromisedStock" ic (Bundle.initS cls)) (by simp [th_oa])) (h (.instanceMethod (Bundle.initS cls)) (by simp [th_oa, Bundle.passSAtoms])) (bytes := bytes) (maxL := 2) (h (.code (Bundle.initS cls) bytes 2 none) (by simp [th_oa, Bundle.passSAtoms]))
    (f := g) hg (a := a) (msg := msg) (rest := .ref a :: rest) hstack hd6
  cases Option.some.inj (hnC.symm.trans hP1m)
  have X₁ := X.noted hW₁
  obtain ⟨vm₂, X₂, st2⟩ := X₁.ctorMessageOffV hexec (g := { g with stack := .ref a :: rest }) hg hsize T L Z LZ M LM (P1 :: P2 :: Ps2)
    (fun P hP => by rcases List.mem_cons.mp hP with rfl | hP; exact L1; rcases List.mem_cons.mp hP with rfl | hP; exact L2; exact hL2 P hP) ⟨hlink1, hlink2, hpass2⟩ (u0 := u0) (sen := sen) (self := a) hmsg (cell := freshCell P1.m.cls kX) (cellS := cellS)
    hcell (fun _ => by simp) (by simp) rfl rfl hsel0 hselF hcellS hneS hknownS (by rw [hkeep _ (hout' _)]; exact hu0) (by rw [hkeep _ (hout' _)]; exact hsen)
    (Takes.of_laid hk hord tyC (by rw [Y.causeType]; rfl)) (Takes.of_laid hk hord tyS (by rw [Y.stackType]; exact fits_refV_array _ u0)) (Takes.of_laid hk hord tyP (by rw [Y.suppType]; exact fits_refV_object _ sen))
    (Takes.of_laid hk hord tyM (by rw [Y.msgType]; exact fits_refV_object _ ⟨msg, hmsg⟩)) Y.objLocals hskip htr [] hd6
    (by simp only [List.length_cons, hlen2]; omega) (by simp only [List.length_cons, hlen2]; exact hRlocals)
  obtain ⟨hwalk, hrun, hended, hWU, hsame⟩ := X₂.athrowLeaves hexec (g := { g with stack := .ref a :: rest, pc := g.pc + 3 }) hg hlocked hentered hout (a := a) (rest := rest) rfl hd9 hlocks
  have hlt : a < ((W'.setVm vm₁).setVm vm₂).heap.size := (Array.getElem?_eq_some_iff.mp hcell).1
  have hU := heapAt_setCell_self (s := (W'.setVm vm₁).setVm vm₂) (plainBareV T.toThrowableT (freshCell P1.m.cls kX) a u0 sen msg) hlt
  refine ⟨_, st1 _ (fun acts => ?_), hrun, hended, hWU, hsame.weaken (fun y hy hlt' => ?_) (Nat.le_refl _) (Nat.le_refl _), _, hU, rfl, hfound⟩
  · rw [doInvoke_state]
    exact st2 _ hwalk
  · rcases List.mem_append.mp hy with h1 | h1
    · exact h1
    · exfalso
      have hb : y.base = a := by
        simp only [List.mem_cons, List.not_mem_nil, or_false] at h1
        rcases h1 with rfl | rfl | rfl | rfl | rfl <;> rfl
      rw [hb] at hlt'
      exact Nat.not_lt.mpr hnew hlt'
end TH1
section TH2
variable {p : Program} {l : Launch} {e : Env} {R : Room} {s : State} {m : MethodId} {args : Array Value} {below : List Frame} {meth : Method} {c : Code} {H : Heap} {locs : List Loc} {cells slots : Nat} {free : Addr → Prop} {ls : Array Slot} {rest : List Value}
variable {Qc : Array Value → State → Outcome → State → Prop} {XC : String → State → State → Prop}
theorem th_throw {cc : ByteArray} {pc : Nat} (hexec : p.tables.exec = Jvm.exec) (hb : c.code = cc) (hl : l.stackTraces = false) {cls text : String} {bytes : ByteArray} {ik is ic ix mc ms sa n : Nat} {A : Nat → Prop}
    (hown : s.vm.findClass "PromisedStock" = some m.cls) (hcls : Bundle.fit cls = true) (hby : th_ot bytes ix)
    (hk : (Cond.classLink "PromisedStock" ik cls).before args s = true) (hini : (Cond.initialized cls).before args s = true) (hstr : vk_R "PromisedStock" is text sa s) (hat : ∀ w ∈ (th_oa ic cls ix bytes).filter vx_no, w.before args s = true)
    (hgood : ∀ w ∈ Cond.classLink "PromisedStock" ik cls :: Cond.initialized cls :: (th_oa ic cls ix bytes).filter vx_no, vx_ot w = true)
    (hU : vx_Zq Bundle.tN "UNASSIGNED_STACK" Bundle.steD A s s.heap) (hN : vx_Zq Bundle.tN "SUPPRESSED_SENTINEL" Bundle.listD A s s.heap) (hS : va_S A s.heap H locs) (hsize : ls.size = c.maxLocals)
    (d0 : decode cc pc = .ok (.new ik, 3)) (d3 : decode cc (pc + 3) = .ok (.dup, 1)) (d4 : (decode cc (pc + 4) = .ok (.ldc is, 2) ∧ n = 6) ∨ (decode cc (pc + 4) = .ok (.ldc_w is, 3) ∧ n = 7)) (d6 : decode cc (pc + n) = .ok (.invokespecial ic, 3)) (d9 : decode cc (pc + n + 3) = .ok (.athrow, 1))
    (hout : ∀ x ∈ c.exceptionTable.toList, False)
    (hRframes : 5 < R.frames) (hRlocals : (rest.map fun v => v.category).sum + 82 ≤ R.locals) (hRcells : cells + 1 ≤ R.cells) (hRslots : slots + 6 ≤ R.slots) (hlocks : meth.locks = false)
    (hx : ∀ t : State, s.vm.Alike t.vm → H.size ≤ t.heap.size → (∀ q : Nat, q < H.size → t.heap[q]? = H[q]?) → XC cls s t)
    (hf : ∀ z ∈ locs, free z.base) (hc : cells + 1 ≤ mc) (hs : slots + 6 ≤ ms) :
    W p l e R s m args below meth c H locs cells slots (vx_MQ below Qc XC args s mc ms free) (F0 m pc ls rest) := by
  intro T hT X
  have htr : e.platform.stackTraces = false := (show e.platform.stackTraces = l.stackTraces by rw [X.admits.platform]).trans hl
  have Y := vx_rebase X (R' := { frames := R.frames, locals := R.locals, cells := 1, slots := 6 }) (Nat.le_refl _) (Nat.le_refl _) hRcells hRslots
  obtain ⟨s', hA⟩ : ∃ z, z = (T.setVm s.vm).setFrames (.invoking m args :: below) := ⟨_, rfl⟩
  rw [← hA] at Y
  have hvm : s'.vm = s.vm := by rw [hA]; rfl
  have hhp : s'.heap = H := by rw [hA]; exact hT
  have hW0 : s.WarmedH s'.vm := by rw [hvm]; exact State.WarmedH.refl s
  have hat' : ∀ w ∈ (th_oa ic cls ix bytes).filter vx_no, w.before args s' = true := fun w hw => vx_ot_at hW0 hvm.symm (hgood w (List.mem_cons_of_mem _ (List.mem_cons_of_mem _ hw))) (hat w hw)
  have hk' : (Cond.classLink "PromisedStock" ik cls).before args s' = true := vx_ot_at hW0 hvm.symm (hgood _ List.mem_cons_self) hk
  have hini' : (Cond.initialized cls).before args s' = true := vx_ot_at hW0 hvm.symm (hgood _ (List.mem_cons_of_mem _ List.mem_cons_self)) hini
  have hU' : vx_Zq Bundle.tN "UNASSIGNED_STACK" Bundle.steD A s' s'.heap := by rw [hhp]; exact vx_Zq.moved hW0.alike (hU.kept hS.2.1)
  have hN' : vx_Zq Bundle.tN "SUPPRESSED_SENTINEL" Bundle.listD A s' s'.heap := by rw [hhp]; exact vx_Zq.moved hW0.alike (hN.kept hS.2.1)
  have h : ∀ w ∈ th_oa ic cls ix bytes, w.before args s' = true := vx_own hat' (vx_isRefq hU'.1) (vx_isRefq hN'.1) hU'.2.word hN'.2.word
  have hown' : s'.vm.findClass "PromisedStock" = some m.cls := by rw [hvm]; exact hown
  have hins : (Cond.instantiable cls 6).before args s' = true := h _ (by simp [th_oa])
  obtain ⟨vm₁, cX, kX, hfX, hkX, -, -, X₁, st1⟩ := Y.newCold hexec (own := "PromisedStock") (C := cls) (index := ik) (n := 6) hown' hk' hins hini'
    (g := F0 m pc ls rest) rfl (by rw [hb]; exact d0) (Nat.le_refl _) (Nat.le_refl _)
  generalize hT1 : (T.setVm vm₁).pushCell { cls := cX, slots := kX.instanceTypes.map defaultValue, vm := .none } = T1 at X₁ st1
  have hcat : (Value.ref T.heap.size).category = 1 := rfl
  have hcellA : T1.heap[T.heap.size]? = some (freshCell cX kX) := by rw [← hT1]; exact State.heap_pushCell_size _ _
  have d3' : decode c.code (pc + 3) = .ok (.dup, 1) := by rw [hb]; exact d3
  have hstr' : vk_R "PromisedStock" is text sa s' := vk_R.warm hW0 hstr
  obtain ⟨U, hsteps, hrun, hend, hW, hsame, ce, hce, hO1, hO2⟩ := th_ctor X₁ hexec htr (cls := cls) (ic := ic) hown' hcls hby h (fun x hx => nomatch hx) hfX hkX hcellA (by rw [hhp, hT]; exact Nat.le_refl _) (msg := .ref sa) rfl
    (g := { method := m, pc := pc + n, locals := ls, stack := .ref sa :: .ref T.heap.size :: .ref T.heap.size :: rest, locked := none }) rfl hsize rfl rfl (rest := rest) rfl
    (by rw [hb]; exact d6) (by rw [hb]; exact d9) (fun x hx => (hout x hx).elim) hRframes (by simp only [List.map_cons, List.sum_cons, hcat]; omega) hlocks
  obtain ⟨f1, f2⟩ := vx_frame hsame
  rw [hhp] at f1 f2
  have hWs : s.WarmedH U.vm := State.WarmedH.trans hW0 hW
  have hcl : s.vm.findClass cls = some ce.cls := by
    have h9 := hO2
    rw [hvm] at h9
    exact h9
  have hall : s.sameButNew ({ U with vm := s.vm } : State) locs mc ms := by
    subst hA
    obtain ⟨e1, e2⟩ := hsame
    rw [State.setFrames_setFrames] at e1
    have h2 : (T.setVm s.vm).sameButNew ({ U with vm := s.vm } : State) [] (0 + 1) (0 + 6) := ⟨e1, e2⟩
    have h3 := X.same.trans h2
    rw [List.append_nil] at h3
    exact h3.mono hc hs
  refine ⟨U, ?_, .threw T.heap.size, hrun, hend, Or.inr ⟨T.heap.size, rfl, cls, ce, locs, hx U hWs.alike f1 (fun q hq => f2 q hq (fun z hz => nomatch hz)), hce, hO1, hcl, hWs, hall, hf⟩⟩
  refine st1 _ ?_
  show Steps p.tables e below (T1.setTop { method := m, pc := pc + 3, locals := ls, stack := .ref T.heap.size :: rest, locked := none }) _
  jvm_step X₁.here [X₁.here.top, hexec, d3', Value.category]
  rcases d4 with ⟨d4, rfl⟩ | ⟨d4, rfl⟩
  · have d4' : decode c.code (pc + 4) = .ok (.ldc is, 2) := by rw [hb]; exact d4
    exact X₁.ldcString hexec (own := "PromisedStock") (text := text) (index := is) (a := sa) hown' hstr'.1 hstr'.2
      (g := { method := m, pc := pc + 4, locals := ls, stack := .ref T.heap.size :: .ref T.heap.size :: rest, locked := none }) rfl d4' _ hsteps
  · have d4' : decode c.code (pc + 4) = .ok (.ldc_w is, 3) := by rw [hb]; exact d4
    exact X₁.ldcStringW hexec (own := "PromisedStock") (text := text) (index := is) (a := sa) hown' hstr'.1 hstr'.2
      (g := { method := m, pc := pc + 4, locals := ls, stack := .ref T.heap.size :: .ref T.heap.size :: rest, locked := none }) rfl d4' _ hsteps
end TH2
/-- words by their places -/
theorem th_byp {L : List Cond} (ps : List Nat) (h : ps.map (fun i => tables_1[i]?) = L.map some) : ∀ w ∈ L, w ∈ tables_1 := by
  intro w hw
  have h1 : some w ∈ L.map some := List.mem_map.mpr ⟨w, hw, rfl⟩
  rw [← h] at h1
  obtain ⟨i, -, hi⟩ := List.mem_map.mp h1
  exact List.mem_of_getElem? hi
abbrev th_IAE : List Cond := (th_oa 95 "java/lang/IllegalArgumentException" 7 prog_16_method_2_code).filter vx_no
abbrev th_NSE : List Cond := (th_oa 132 "java/util/NoSuchElementException" 13 prog_28_method_4_code).filter vx_no
theorem th_IAE_g : [11, 638, 647, 650, 653, 655, 639, 640, 30, 31, 641, 646, 651, 671, 628, 672, 630, 673, 632, 642, 644, 634, 667, 668, 670, 634, 658, 659, 660, 661, 661, 662, 663, 664, 664, 665, 666, 667, 657, 617, 625, 626, 627, 629, 631, 633, 637, 636, 635].map (fun i => tables_1[i]?) = (th_IAE.filter goodWord).map some := by decide +kernel
theorem th_NSE_g : [11, 638, 647, 650, 653, 655, 639, 640, 30, 31, 641, 646, 651, 671, 628, 672, 630, 673, 632, 642, 644, 634, 667, 668, 670, 634, 859, 860, 861, 661, 661, 662, 663, 664, 664, 665, 666, 667, 858, 849, 851, 649, 852, 853, 854, 855, 637, 636, 856].map (fun i => tables_1[i]?) = (th_NSE.filter goodWord).map some := by decide +kernel
theorem th_IAE_n : ∀ w ∈ th_IAE.filter (fun w => !goodWord w), w ∈ mm_nb := by decide +kernel
theorem th_NSE_n : ∀ w ∈ th_NSE.filter (fun w => !goodWord w), w ∈ mm_nb := by decide +kernel
theorem th_IAE_o : ∀ w ∈ Cond.classLink "PromisedStock" 91 "java/lang/IllegalArgumentException" :: Cond.initialized "java/lang/IllegalArgumentException" :: th_IAE, vx_ot w = true := by decide +kernel
theorem th_NSE_o : ∀ w ∈ Cond.classLink "PromisedStock" 128 "java/util/NoSuchElementException" :: Cond.initialized "java/util/NoSuchElementException" :: th_NSE, vx_ot w = true := by decide +kernel
theorem th_nb_o : ∀ w ∈ mm_nb, w.onTables = true := by decide +kernel
def th_w (y : Nat) : Nat × Nat := bif Nat.beq y 0 then (128, 132) else (91, 95)
def th_2 (x : mm_I) (ic pc : Nat) : Bool := (match mm_ins x pc with
  | some (_, .invokespecial k, 3) => Nat.beq k ic
  | _ => false) && (match mm_ins x (pc + 3) with
  | some (_, .athrow, 1) => true
  | _ => false)
def th_s (is : Nat) : Bool := mm_sc.any (fun q => Nat.beq q.1 8 && Nat.beq q.2.1 is)
def th_1 (x : mm_I) (q : Nat × Nat) : Bool := Nat.ble q.2 1 && ((match mm_ins x q.1 with
  | some (_, .new k, 3) => Nat.beq k (th_w q.2).1
  | _ => false) && ((match mm_ins x (q.1 + 3) with
  | some (_, .dup, 1) => true
  | _ => false) && (match mm_ins x (q.1 + 4) with
  | some (_, .ldc is, 2) => th_s is && th_2 x (th_w q.2).2 (q.1 + 6)
  | some (_, .ldc_w is, 3) => th_s is && th_2 x (th_w q.2).2 (q.1 + 7)
  | _ => false)))
def th_q (j : Nat) : Bool := (mm_x j).2.2.1.2.1.all (fun q => Nat.beq (mm_x j).2.1.1 8 && th_1 (mm_x j) q)
theorem th_q_all : (List.range 287).all th_q = true := by decide +kernel
theorem th_2_of {x : mm_I} {ic pc : Nat} (hc : mm_dc x = true) (h : th_2 x ic pc = true) : decode x.1.2.1 pc = .ok (.invokespecial ic, 3) ∧ decode x.1.2.1 (pc + 3) = .ok (.athrow, 1) := by
  unfold th_2 at h
  rw [Bool.and_eq_true] at h
  obtain ⟨h1, h2⟩ := h
  refine ⟨?_, ?_⟩
  · split at h1
    · next q0 k hi =>
      have e := Nat.eq_of_beq_eq_true h1
      subst e
      exact (mm_ins_of hc hi).1
    · cases h1
  · split at h2
    · next q0 hi => exact (mm_ins_of hc hi).1
    · cases h2
theorem th_s_of {is : Nat} (h : th_s is = true) : ∃ (i : Nat) (q : Nat × Nat × String × Nat), mm_sc[i]? = some q ∧ q.1 = 8 ∧ q.2.1 = is := by
  unfold th_s at h
  obtain ⟨q, hq, h1⟩ := List.any_eq_true.mp h
  rw [Bool.and_eq_true] at h1
  obtain ⟨i, hi⟩ := List.mem_iff_getElem?.mp hq
  exact ⟨i, q, hi, Nat.eq_of_beq_eq_true h1.1, Nat.eq_of_beq_eq_true h1.2⟩
theorem mm_AN_ok {l : Launch} {E : mm_E} {D : va_G} {cs : ClassId × ClassId × ClassId} (hl : l.stackTraces = false) : mm_AN l E D cs := by
  intro p e R s m args below meth c h0 hf o j hj hj2 C hh0 htab hlocks q k pc h H locs cells slots ls st hfi hd hw ho hhf hI hL
  have hq := List.all_eq_true.mp (List.all_eq_true.mp th_q_all j (List.mem_range.mpr hj)) q (List.mem_of_find?_eq_some hfi)
  rw [Bool.and_eq_true] at hq
  obtain ⟨q8, hq⟩ := hq
  have q8 := Nat.eq_of_beq_eq_true q8
  have hpc : q.1 = pc := Nat.eq_of_beq_eq_true (List.find?_some (p := fun q : Nat × Nat => Nat.beq q.1 pc) hfi)
  unfold th_1 at hq
  rw [hpc, Bool.and_eq_true, Bool.and_eq_true, Bool.and_eq_true] at hq
  obtain ⟨qy, q1, q2, q3⟩ := hq
  have qy := Nat.le_of_ble_eq_true qy
  have hdc := mm_dc_all j
  have hk : k = (th_w q.2).1 := by
    split at q1
    · next q0 k' hi =>
      have e := (mm_ins_of hdc hi).1
      rw [hd] at e
      cases e
      exact Nat.eq_of_beq_eq_true q1
    · cases q1
  have d3 : decode (mm_x j).1.2.1 (pc + 3) = .ok (.dup, 1) := by
    split at q2
    · next q0 hi => exact (mm_ins_of hdc hi).1
    · cases q2
  have d4 : ∃ is n, ((decode (mm_x j).1.2.1 (pc + 4) = .ok (.ldc is, 2) ∧ n = 6) ∨ (decode (mm_x j).1.2.1 (pc + 4) = .ok (.ldc_w is, 3) ∧ n = 7)) ∧ th_s is = true ∧ th_2 (mm_x j) (th_w q.2).2 (pc + n) = true := by
    split at q3
    · next q0 is hi =>
      rw [Bool.and_eq_true] at q3
      exact ⟨is, 6, Or.inl ⟨(mm_ins_of hdc hi).1, rfl⟩, q3.1, q3.2⟩
    · next q0 is hi =>
      rw [Bool.and_eq_true] at q3
      exact ⟨is, 7, Or.inr ⟨(mm_ins_of hdc hi).1, rfl⟩, q3.1, q3.2⟩
    · cases q3
  obtain ⟨is, n, d4, hss, h2⟩ := d4
  obtain ⟨d6, d9⟩ := th_2_of hdc h2
  obtain ⟨i, qs, hi, hi1, hi2⟩ := th_s_of hss
  obtain ⟨hx, hb, hml, hown, hts, -, -, hK, hA, hR, hR2, hRO⟩ := C
  obtain ⟨-, -, -, hSt, -, -, -, -, -, hU, hN, -, -, hnb⟩ := hRO
  have hstr := hSt i qs hi
  rw [hi1, hi2] at hstr
  rw [q8] at hown
  have hS := hI.2.1
  have hcc := hI.2.2.2.1
  have hs2 := hI.2.2.2.2
  have e1 : hf.2.2.1 = h.2.2.1 + 1 := by rw [hhf]
  have e2 : hf.2.2.2 = h.2.2.2 + 6 := by rw [hhf]
  have hXC : ∀ t : State, s.vm.Alike t.vm → H.size ≤ t.heap.size → (∀ q : Nat, q < H.size → t.heap[q]? = H[q]?) → mm_Qx D cs h0 o hf s.heap.size (mm_xn q.2) s t := by
    intro t _ ht1 ht2
    refine ⟨⟨q.2, ho, rfl⟩, ⟨?_, fun n hn => by rw [hhf] at hn; cases hn⟩, ⟨Nat.le_trans hS.1 ht1, fun a ha hna => by rw [ht2 a (Nat.lt_of_lt_of_le ha hS.1)]; exact hS.2.1 a ha hna⟩⟩
    obtain ⟨Ls, hLs, hP, hD⟩ := hI.1
    rw [hhf]
    exact ⟨Ls, hLs, fun k2 q2 hk2 => (hP k2 q2 hk2).kept (ht2 q2.1 (hP k2 q2 hk2).lt), hD⟩
  have h3 : ∀ w ∈ mm_nb, w.before args s = true := fun w hw => va_Nw.use (th_nb_o w hw) (hnb w hw)
  have hw8 : (st.map fun v => v.category).sum ≤ 8 := by
    have z2 : 2 * (F0 m pc ls st).monitorRoom + (st.map fun v => v.category).sum ≤ 8 := mm_lw8 (m := m) (pc := pc) (ls := ls) (st := st) hw
    omega
  have hgd : ∀ {L : List Cond} (ps : List Nat), ps.map (fun i => tables_1[i]?) = (L.filter goodWord).map some → ∀ w ∈ L.filter goodWord, w.before args s = true := by
    intro L ps hps w hw
    exact hts _ (mm_tb_of (th_byp ps hps w hw) (List.mem_filter.mp hw).2)
  rcases Nat.lt_or_ge q.2 1 with hy | hy
  · have hy0 : q.2 = 0 := by omega
    rw [hy0] at hk d6 hXC
    subst hk
    exact th_throw (cls := "java/util/NoSuchElementException") (bytes := prog_28_method_4_code) (ik := 128) (ic := 132) (ix := 13) (n := n) (A := mm_A h0.1 s.heap.size) hx hb hl hown (by decide) ⟨by decide +kernel, by decide +kernel, by decide +kernel, by decide +kernel⟩ (hts _ (mm_tb_of (List.mem_of_getElem? (i := 848) (by decide +kernel)) rfl)) (hts _ (mm_tb_of (List.mem_of_getElem? (i := 23) (by decide +kernel)) rfl)) hstr (vx_hat (hgd _ th_NSE_g) th_NSE_n h3) th_NSE_o hU hN hS (by rw [hml]; exact hL) hd d3 d4 d6 d9 htab (by omega) (by omega) (by omega) (by omega) hlocks hXC hS.2.2 (by omega) (by omega)
  · have hy1 : q.2 = 1 := by omega
    rw [hy1] at hk d6 hXC
    subst hk
    exact th_throw (cls := "java/lang/IllegalArgumentException") (bytes := prog_16_method_2_code) (ik := 91) (ic := 95) (ix := 7) (n := n) (A := mm_A h0.1 s.heap.size) hx hb hl hown (by decide) ⟨by decide +kernel, by decide +kernel, by decide +kernel, by decide +kernel⟩ (hts _ (mm_tb_of (List.mem_of_getElem? (i := 616) (by decide +kernel)) rfl)) (hts _ (mm_tb_of (List.mem_of_getElem? (i := 14) (by decide +kernel)) rfl)) hstr (vx_hat (hgd _ th_IAE_g) th_IAE_n h3) th_IAE_o hU hN hS (by rw [hml]; exact hL) hd d3 d4 d6 d9 htab (by omega) (by omega) (by omega) (by omega) hlocks hXC hS.2.2 (by omega) (by omega)
