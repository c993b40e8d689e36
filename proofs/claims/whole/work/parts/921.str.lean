/-! STRING: length and charAt of the constants, by the JDK's own code -/
def st_F : Nat → Prop := fun _ => False
def st_B (a v : Nat) (t : List Int32) (U : State) : Prop := va_Z "java/lang/String" "COMPACT_STRINGS" "Z" (.int 1) st_F U U.heap ∧ va_Zq "jdk/internal/util/Preconditions" "SIOOBE_FORMATTER" "Ljava/util/function/BiFunction;" st_F U U.heap ∧ va_O "java/lang/String" a st_F U U.heap ∧ va_OF "java/lang/String" "coder" "B" (.int 0) a st_F U U.heap ∧ va_OF "java/lang/String" "value" "[B" (.ref v) a st_F U U.heap ∧ va_T .byte v t.length (fun j => .int (t.getD j 0)) st_F U U.heap
theorem st_B_moved {a v : Nat} {t : List Int32} {u U : State} (hW : u.vm.Alike U.vm) (hh : U.heap = u.heap) (h : st_B a v t u) : st_B a v t U := by
  obtain ⟨h1, h2, h3, h4, h5, h6⟩ := h
  unfold st_B
  rw [hh]
  exact ⟨va_Z.moved hW h1, va_Zq.moved hW h2, va_O.moved hW h3, va_OF.moved hW h4, va_OF.moved hW h5, va_T.moved hW h6⟩
def st_Q (o : Option Value) : Array Value → State → Outcome → State → Prop := fun _ st oc t => oc = .returned o ∧ t.heap = st.heap
def st_rm (d : Nat) : Room := { frames := d, cells := 0, slots := 0, locals := 40 * d }
def st_M (l : Launch) (y : MethodName) (ws : List Cond) (d : Nat) (As : List Value) (B : State → Prop) (o : Option Value) : Prop := Met l y ws (st_rm d) (va_Pc As B) (st_Q o) 0 0 st_F
theorem st_blindT {As : List Value} : FrameBlind (va_Pc As (fun _ => True)) := fun _ _ _ _ q => q
theorem st_blind {As : List Value} {a v : Nat} {t : List Int32} : FrameBlind (va_Pc As (st_B a v t)) := fun _ U g mk q => ⟨q.1, st_B_moved (u := U) (U := U.calling g mk _) (Vm.Alike.refl U.vm) rfl q.2⟩
/-- a byte's letter -/
theorem st_char {z : Int32} (h : z &&& 255 = z) : (z.toUInt32 % 65536).toInt32 = z ∧ narrow .char (.int z) = .int z := by
  have h1 : z.toBitVec &&& 255#32 = z.toBitVec := congrArg Int32.toBitVec h
  have h2 : z.toBitVec.toNat < 256 := by
    rw [← h1, BitVec.toNat_and]
    exact Nat.lt_of_le_of_lt Nat.and_le_right (by decide)
  have key : (z.toUInt32 % 65536).toInt32 = z := by
    apply Int32.toBitVec_inj.mp
    apply BitVec.eq_of_toNat_eq
    show (z.toBitVec % 65536#32).toNat = z.toBitVec.toNat
    rw [BitVec.toNat_umod]
    exact Nat.mod_eq_of_lt (Nat.lt_trans h2 (by decide))
  refine ⟨key, ?_⟩
  first | exact congrArg Value.int key | (simp only [narrow]; exact congrArg Value.int key) | (unfold narrow; exact congrArg Value.int key)
theorem st_shr (z : Int32) : z >>> ((0 : Int32) &&& 31) = z := by
  have h : ((0 : Int32) &&& 31) = 0 := by decide
  rw [h]
  exact Int32.shiftRight_zero
section STR
variable {p : Program} {l : Launch} {e : Env} {R : Room} {s : State} {m : MethodId} {args : Array Value} {below : List Frame} {meth : Method} {c : Code} {H : Heap} {locs : List Loc} {cells slots pc d : Nat} {Q : State → Prop} {ls : Array Slot} {rest st0 As : List Value} {B : State → Prop} {o : Option Value} {y : MethodName} {ws ws' : List Cond} {bytes cc : ByteArray} {maxL nL n index : Nat} {ret : Option FieldType} {own : String} {b : Nat}
theorem st_go {a : Array Value} (hr : va_Run p l e R s m args below meth c H locs cells slots 0 0 (F0 m pc ls st0) rest (st_Q o a) st_F) (k : W p l e R s m args below meth c H locs cells slots Q (F0 m (pc + 3) ls (o.toList ++ rest))) : W p l e R s m args below meth c H locs cells slots Q (F0 m pc ls st0) := by
  intro T hT X
  obtain ⟨v, st₀, t, T', L, h0, X', hL, e1, e2, ⟨hv, hh⟩, st⟩ := hr T hT X
  cases hv
  have hLn : L = [] := by
    cases L with
    | nil => rfl
    | cons q r => exact (hL q List.mem_cons_self).elim
  subst hLn
  rw [List.append_nil] at X'
  obtain ⟨t2, a1, b1⟩ := k T' (by rw [e1, hh]; exact h0) X'
  exact ⟨t2, st t2 a1, b1⟩
/-- a static call -/
theorem st_callS (hx : p.tables.exec = Jvm.exec) (hb : c.code = cc) (hml : c.maxLocals = nL) (hown : s.vm.findClass own = some m.cls) (hts : ∀ w ∈ mm_tb, w.before args s = true) (hM : st_M l y (Cond.code y bytes maxL ret :: mm_tb) d As B o) (hbl : FrameBlind (va_Pc As B)) (hc : Cond.code y bytes maxL ret ∈ mm_tb) (hk : Cond.methodLink own index y ∈ mm_tb) (hst : Cond.static y ∈ mm_tb) (hi : Cond.initialized y.cls ∈ mm_tb) (hd : y.cls ≠ "java/lang/invoke/MethodHandle" ∧ y.cls ≠ "java/lang/invoke/VarHandle" ∧ (parseMethodDescriptor y.desc).map (fun d => d.parameters.length) = some n) (hn : As.length = n)
    (hR : d + 1 ≤ R.frames ∧ 8 + (maxL + 11) + 40 * d ≤ R.locals) (hR2 : cells ≤ R.cells ∧ slots ≤ R.slots) (hB : ∀ U : State, U.heap = H → s.WarmedH U.vm → B U) (hsize : ls.size = nL) (hw : (rest.map fun v => v.category).sum ≤ 8) (hdg : decode cc pc = .ok (.invokestatic index, 3)) (k : W p l e R s m args below meth c H locs cells slots Q (F0 m (pc + 3) ls (o.toList ++ rest))) :
    W p l e R s m args below meth c H locs cells slots Q (F0 m pc ls (As.reverse ++ rest)) := by
  have hG : GoodIn mm_tb (Cond.code y bytes maxL ret :: mm_tb) := fun w hw => mm_tb_good w (by rcases List.mem_cons.mp hw with rfl | hw; exact hc; exact hw)
  refine st_go (va_runS (Ts := mm_tb) (n := n) (bytes := bytes) (maxL := maxL) (ret := ret) (As := As) ⟨hx, hb, hml, hown, hts⟩ hM ⟨callB_of n hts hG rfl rfl rfl (hts _ hi) (hts _ hk) hd hR, hts _ hst⟩ ⟨hbl, fun U h1 h2 => ⟨rfl, hB U h1 h2⟩⟩ rfl hn hsize rfl (by show 0 + _ ≤ 8; omega) hdg ⟨hR2.1, hR2.2⟩) k
/-- a call of an object's method -/
theorem st_callV (hx : p.tables.exec = Jvm.exec) (hb : c.code = cc) (hml : c.maxLocals = nL) (hown : s.vm.findClass own = some m.cls) (hts : ∀ w ∈ mm_tb, w.before args s = true) (hM : st_M l y (Cond.code y bytes maxL ret :: mm_tb) d (.ref b :: As) B o) (hbl : FrameBlind (va_Pc (.ref b :: As) B)) (hc : Cond.code y bytes maxL ret ∈ mm_tb) (hk : Cond.methodLink own index y ∈ mm_tb) (hin : Cond.instanceMethod y ∈ mm_tb) (hse : Cond.selects y.cls y y ∈ mm_tb) (hi : Cond.initialized y.cls ∈ mm_tb) (hd : y.cls ≠ "java/lang/invoke/MethodHandle" ∧ y.cls ≠ "java/lang/invoke/VarHandle" ∧ (parseMethodDescriptor y.desc).map (fun d => d.parameters.length) = some n) (hn : As.length = n)
    (hR : d + 1 ≤ R.frames ∧ 8 + (maxL + 11) + 40 * d ≤ R.locals) (hR2 : cells ≤ R.cells ∧ slots ≤ R.slots) (hcell : ∃ cellB : Cell, H[b]? = some cellB ∧ cellB.vm.isStatics = false ∧ s.vm.findClass y.cls = some cellB.cls) (hB : ∀ U : State, U.heap = H → s.WarmedH U.vm → B U) (hsize : ls.size = nL) (hw : (rest.map fun v => v.category).sum ≤ 8) (hdg : decode cc pc = .ok (.invokevirtual index, 3)) (k : W p l e R s m args below meth c H locs cells slots Q (F0 m (pc + 3) ls (o.toList ++ rest))) :
    W p l e R s m args below meth c H locs cells slots Q (F0 m pc ls (As.reverse ++ .ref b :: rest)) := by
  have hG : GoodIn mm_tb (Cond.code y bytes maxL ret :: mm_tb) := fun w hw => mm_tb_good w (by rcases List.mem_cons.mp hw with rfl | hw; exact hc; exact hw)
  refine st_go (va_runV (Ts := mm_tb) (n := n) (C := y.cls) (bytes := bytes) (maxL := maxL) (ret := ret) (As := As) (b := b) ⟨hx, hb, hml, hown, hts⟩ hM ⟨callB_of n hts hG rfl rfl rfl (hts _ hi) (hts _ hk) hd hR, hts _ hin, hts _ hse⟩ ⟨hbl, hcell, fun U h1 h2 => ⟨rfl, hB U h1 h2⟩⟩ rfl hn hsize rfl (by show 0 + _ ≤ 8; omega) hdg ⟨hR2.1, hR2.2⟩) k
end STR
-- names
def st_len : MethodName := ⟨"java/lang/String", "length", "()I"⟩
def st_cod : MethodName := ⟨"java/lang/String", "coder", "()B"⟩
def st_cha : MethodName := ⟨"java/lang/String", "charAt", "(I)C"⟩
def st_lat : MethodName := ⟨"java/lang/String", "isLatin1", "()Z"⟩
def st_l1c : MethodName := ⟨"java/lang/StringLatin1", "charAt", "([BI)C"⟩
def st_ck : MethodName := ⟨"java/lang/String", "checkIndex", "(II)V"⟩
def st_pk : MethodName := ⟨"jdk/internal/util/Preconditions", "checkIndex", "(IILjava/util/function/BiFunction;)I"⟩
theorem st_w17 : Cond.initialized "java/lang/String" ∈ mm_tb := mm_tb_of (List.mem_of_getElem? (i := 17) (by decide +kernel)) rfl
theorem st_w18 : Cond.initialized "java/lang/StringLatin1" ∈ mm_tb := mm_tb_of (List.mem_of_getElem? (i := 18) (by decide +kernel)) rfl
theorem st_w19 : Cond.initialized "jdk/internal/util/Preconditions" ∈ mm_tb := mm_tb_of (List.mem_of_getElem? (i := 19) (by decide +kernel)) rfl
theorem st_w715 : Cond.instanceMethod st_len ∈ mm_tb := mm_tb_of (List.mem_of_getElem? (i := 716) (by decide +kernel)) rfl
theorem st_w716 : Cond.selects "java/lang/String" st_len st_len ∈ mm_tb := mm_tb_of (List.mem_of_getElem? (i := 717) (by decide +kernel)) rfl
theorem st_w717 : Cond.code st_len prog_20_method_54_code 1 (some .int) ∈ mm_tb := mm_tb_of (List.mem_of_getElem? (i := 718) (by decide +kernel)) rfl
theorem st_w718 : Cond.methodLink "java/lang/String" 335 st_cod ∈ mm_tb := mm_tb_of (List.mem_of_getElem? (i := 719) (by decide +kernel)) rfl
theorem st_w719 : Cond.instanceMethod st_cod ∈ mm_tb := mm_tb_of (List.mem_of_getElem? (i := 720) (by decide +kernel)) rfl
theorem st_w720 : Cond.selects "java/lang/String" st_cod st_cod ∈ mm_tb := mm_tb_of (List.mem_of_getElem? (i := 721) (by decide +kernel)) rfl
theorem st_w721 : Cond.code st_cod prog_20_method_152_code 1 (some .byte) ∈ mm_tb := mm_tb_of (List.mem_of_getElem? (i := 722) (by decide +kernel)) rfl
theorem st_w722 : Cond.fieldLink "java/lang/String" 38 "java/lang/String" "COMPACT_STRINGS" "Z" ∈ mm_tb := mm_tb_of (List.mem_of_getElem? (i := 723) (by decide +kernel)) rfl
theorem st_w725 : Cond.instanceMethod st_cha ∈ mm_tb := mm_tb_of (List.mem_of_getElem? (i := 726) (by decide +kernel)) rfl
theorem st_w726 : Cond.selects "java/lang/String" st_cha st_cha ∈ mm_tb := mm_tb_of (List.mem_of_getElem? (i := 727) (by decide +kernel)) rfl
theorem st_w727 : Cond.code st_cha prog_20_method_56_code 2 (some .char) ∈ mm_tb := mm_tb_of (List.mem_of_getElem? (i := 728) (by decide +kernel)) rfl
theorem st_w728 : Cond.methodLink "java/lang/String" 492 st_lat ∈ mm_tb := mm_tb_of (List.mem_of_getElem? (i := 729) (by decide +kernel)) rfl
theorem st_w729 : Cond.instanceMethod st_lat ∈ mm_tb := mm_tb_of (List.mem_of_getElem? (i := 730) (by decide +kernel)) rfl
theorem st_w730 : Cond.selects "java/lang/String" st_lat st_lat ∈ mm_tb := mm_tb_of (List.mem_of_getElem? (i := 731) (by decide +kernel)) rfl
theorem st_w731 : Cond.code st_lat prog_20_method_154_code 1 (some .boolean) ∈ mm_tb := mm_tb_of (List.mem_of_getElem? (i := 732) (by decide +kernel)) rfl
theorem st_w732 : Cond.methodLink "java/lang/String" 495 st_l1c ∈ mm_tb := mm_tb_of (List.mem_of_getElem? (i := 733) (by decide +kernel)) rfl
theorem st_w733 : Cond.static st_l1c ∈ mm_tb := mm_tb_of (List.mem_of_getElem? (i := 734) (by decide +kernel)) rfl
theorem st_w734 : Cond.code st_l1c prog_21_method_2_code 2 (some .char) ∈ mm_tb := mm_tb_of (List.mem_of_getElem? (i := 735) (by decide +kernel)) rfl
theorem st_w735 : Cond.methodLink "java/lang/StringLatin1" 9 st_ck ∈ mm_tb := mm_tb_of (List.mem_of_getElem? (i := 736) (by decide +kernel)) rfl
theorem st_w736 : Cond.static st_ck ∈ mm_tb := mm_tb_of (List.mem_of_getElem? (i := 737) (by decide +kernel)) rfl
theorem st_w737 : Cond.code st_ck prog_20_method_155_code 2 none ∈ mm_tb := mm_tb_of (List.mem_of_getElem? (i := 738) (by decide +kernel)) rfl
theorem st_w738 : Cond.fieldLink "java/lang/String" 1053 "jdk/internal/util/Preconditions" "SIOOBE_FORMATTER" "Ljava/util/function/BiFunction;" ∈ mm_tb := mm_tb_of (List.mem_of_getElem? (i := 739) (by decide +kernel)) rfl
theorem st_w740 : Cond.methodLink "java/lang/String" 1059 st_pk ∈ mm_tb := mm_tb_of (List.mem_of_getElem? (i := 741) (by decide +kernel)) rfl
theorem st_w741 : Cond.static st_pk ∈ mm_tb := mm_tb_of (List.mem_of_getElem? (i := 742) (by decide +kernel)) rfl
theorem st_w742 : Cond.code st_pk prog_29_method_11_code 3 (some .int) ∈ mm_tb := mm_tb_of (List.mem_of_getElem? (i := 743) (by decide +kernel)) rfl
theorem st_w1785 : Cond.fieldLink "java/lang/String" 9 "java/lang/String" "value" "[B" ∈ mm_tb := mm_tb_of (List.mem_of_getElem? (i := 1786) (by decide +kernel)) rfl
theorem st_w1786 : Cond.fieldLink "java/lang/String" 15 "java/lang/String" "coder" "B" ∈ mm_tb := mm_tb_of (List.mem_of_getElem? (i := 1787) (by decide +kernel)) rfl
section STC
variable {l : Launch} {a v : Nat} {t : List Int32}
/-- Preconditions.checkIndex: inside -/
theorem st_M_pk {i n : Int32} {f : Value} (hf : f = .null ∨ ∃ q, f = .ref q) (h0 : ¬ i < 0) (h1 : i < n) : st_M l st_pk (Cond.code st_pk prog_29_method_11_code 3 (some .int) :: mm_tb) 0 [.int i, .int n, f] (fun _ => True) (some (.int i)) := by
  refine Met.ofW (cc := prog_29_method_11_code) (maxL := 3) (ret := some .int) (by decide) rfl ?_
  intro p e s m args below meth c s₁ B hml hv
  obtain ⟨rfl, -⟩ := hv
  have hx := B.exec
  have hb := B.bytes
  have hl : lv_has ((lg_sl [.int i, .int n, f] ++ List.replicate (3 - (lg_sl [.int i, .int n, f]).length) Slot.unset).toArray) 3 (lv_args 0 [.int i, .int n, f]) := lv_entry _ (by rcases hf with rfl | ⟨q, rfl⟩ <;> exact Nat.le_refl 3)
  rw [lg_entry_eq]
  generalize (lg_sl [.int i, .int n, f] ++ List.replicate (3 - (lg_sl [.int i, .int n, f]).length) Slot.unset).toArray = ls at hl
  refine lv_iload_n hx hb (by decide +kernel : decode prog_29_method_11_code 0 = .ok (.iload_n 0, 1)) rfl (lv_at hl 0 rfl) ?_
  refine lv_if_lt hx hb (by decide +kernel : decode prog_29_method_11_code 1 = .ok (.ifCond .lt 8, 3)) (tgt := 9) rfl (fun z => absurd z h0) (fun _ => ?_)
  refine lv_iload_n hx hb (by decide +kernel : decode prog_29_method_11_code 4 = .ok (.iload_n 0, 1)) rfl (lv_at hl 0 rfl) ?_
  refine lv_iload_n hx hb (by decide +kernel : decode prog_29_method_11_code 5 = .ok (.iload_n 1, 1)) rfl (lv_at hl 1 rfl) ?_
  refine lv_icmp_lt hx hb (by decide +kernel : decode prog_29_method_11_code 6 = .ok (.if_icmp .lt 10, 3)) (tgt := 16) rfl (fun _ => ?_) (fun z => absurd h1 z)
  refine lv_iload_n hx hb (by decide +kernel : decode prog_29_method_11_code 16 = .ok (.iload_n 0, 1)) rfl (lv_at hl 0 rfl) ?_
  exact W.iret hx hb B.returns (fun t ht _ => ⟨rfl, ht⟩) (fun q hq => by cases hq) (by decide +kernel : decode prog_29_method_11_code 17 = .ok (.ireturn, 1)) B.notSynchronized
/-- String.checkIndex: inside -/
theorem st_M_ck {i n : Int32} (h0 : ¬ i < 0) (h1 : i < n) : st_M l st_ck (Cond.code st_ck prog_20_method_155_code 2 none :: mm_tb) 1 [.int i, .int n] (st_B a v t) none := by
  refine Met.ofW (cc := prog_20_method_155_code) (maxL := 2) (ret := none) (by decide) rfl ?_
  intro p e s m args below meth c s₁ B hml hv
  obtain ⟨rfl, hB⟩ := hv
  have hx := B.exec
  have hb := B.bytes
  have hts0 := atoms_spec (ws := Cond.code st_ck prog_20_method_155_code 2 none :: mm_tb) B.pre
  have hts : ∀ w ∈ mm_tb, w.before _ s = true := fun w hw => hts0 w (List.mem_cons_of_mem _ hw)
  have hown : s.vm.findClass "java/lang/String" = some m.cls := findClass_of_methodNamed B.named
  have hl : lv_has ((lg_sl [.int i, .int n] ++ List.replicate (2 - (lg_sl [.int i, .int n]).length) Slot.unset).toArray) 2 (lv_args 0 [.int i, .int n]) := lv_entry _ (Nat.le_refl 2)
  rw [lg_entry_eq]
  generalize (lg_sl [.int i, .int n] ++ List.replicate (2 - (lg_sl [.int i, .int n]).length) Slot.unset).toArray = ls at hl
  refine lv_iload_n hx hb (by decide +kernel : decode prog_20_method_155_code 0 = .ok (.iload_n 0, 1)) rfl (lv_at hl 0 rfl) ?_
  refine lv_iload_n hx hb (by decide +kernel : decode prog_20_method_155_code 1 = .ok (.iload_n 1, 1)) rfl (lv_at hl 1 rfl) ?_
  have go : ∀ f : Value, (f = .null ∨ ∃ q, f = .ref q) → va_Z "jdk/internal/util/Preconditions" "SIOOBE_FORMATTER" "Ljava/util/function/BiFunction;" f st_F s s.heap →
      W p l e (headSpec (Cond.code st_ck prog_20_method_155_code 2 none :: mm_tb) (st_rm 1)).room s m [Value.int i, Value.int n].toArray below meth c s.heap [] 0 0 (MQ below (st_Q none) [Value.int i, Value.int n].toArray s 0 0 st_F) (F0 m 2 ls [.int n, .int i]) := by
    intro f hf hZ
    refine va_gets hx hb hZ va_S.rf hown (hts _ st_w738) (fun _ z => z) (by decide +kernel : decode prog_20_method_155_code 2 = .ok (.getstatic 1053, 3)) ?_
    refine st_callS (As := [.int i, .int n, f]) (rest := []) (n := 3) (d := 0) (bytes := prog_29_method_11_code) (maxL := 3) (ret := some .int) hx hb hml hown hts (st_M_pk hf h0 h1) st_blindT st_w742 st_w740 st_w741 st_w19 ⟨by decide, by decide, by decide +kernel⟩ rfl ⟨Nat.le_refl 1, by show 8 + (3 + 11) + 40 * 0 ≤ 40 * 1; omega⟩ ⟨Nat.le_refl 0, Nat.le_refl 0⟩ (fun _ _ _ => trivial) hl.1 (by decide) (by decide +kernel : decode prog_20_method_155_code 5 = .ok (.invokestatic 1059, 3)) ?_
    refine lv_pop hx hb (by decide +kernel : decode prog_20_method_155_code 8 = .ok (.pop, 1)) rfl ?_
    exact W.vret hx hb B.returns (fun t ht _ => ⟨rfl, ht⟩) (fun q hq => by cases hq) (by decide +kernel : decode prog_20_method_155_code 9 = .ok (.return_, 1)) B.notSynchronized
  rcases hB.2.1 with hZ | ⟨q, hZ⟩
  · exact go .null (Or.inl rfl) hZ
  · exact go (.ref q) (Or.inr ⟨q, rfl⟩) hZ
/-- StringLatin1.charAt -/
theorem st_M_l1c {i : Int32} (hi : vp_in i t.length) (hlen : t.length < 1000) (h8 : ∀ j, j < t.length → ((t.getD j 0) &&& 255) = t.getD j 0) : st_M l st_l1c (Cond.code st_l1c prog_21_method_2_code 2 (some .char) :: mm_tb) 2 [.ref v, .int i] (st_B a v t) (some (.int (t.getD i.toNatClampNeg 0))) := by
  refine Met.ofW (cc := prog_21_method_2_code) (maxL := 2) (ret := some .char) (by decide) rfl ?_
  intro p e s m args below meth c s₁ B hml hv
  obtain ⟨rfl, hB⟩ := hv
  have hx := B.exec
  have hb := B.bytes
  have hts0 := atoms_spec (ws := Cond.code st_l1c prog_21_method_2_code 2 (some .char) :: mm_tb) B.pre
  have hts : ∀ w ∈ mm_tb, w.before _ s = true := fun w hw => hts0 w (List.mem_cons_of_mem _ hw)
  have hown : s.vm.findClass "java/lang/StringLatin1" = some m.cls := findClass_of_methodNamed B.named
  have hl : lv_has ((lg_sl [.ref v, .int i] ++ List.replicate (2 - (lg_sl [.ref v, .int i]).length) Slot.unset).toArray) 2 (lv_args 0 [.ref v, .int i]) := lv_entry _ (by show 2 ≤ 2; omega)
  rw [lg_entry_eq]
  generalize (lg_sl [.ref v, .int i] ++ List.replicate (2 - (lg_sl [.ref v, .int i]).length) Slot.unset).toArray = ls at hl
  obtain ⟨hi0, hi1⟩ : ¬ i < 0 ∧ ¬ t.length ≤ i.toNatClampNeg := ⟨fun z => hi (Or.inl z), fun z => hi (Or.inr z)⟩
  have hlt : i < Int32.ofNat t.length := by
    rw [Int32.lt_iff_toInt_lt] at *
    have h0 : (0 : Int32).toInt = 0 := rfl
    rw [h0] at hi0
    rw [Int32.toInt_ofNat_of_lt (by omega)]
    have h9 : i.toNatClampNeg = i.toInt.toNat := rfl
    omega
  have hT := hB.2.2.2.2.2
  refine lv_iload_n hx hb (by decide +kernel : decode prog_21_method_2_code 0 = .ok (.iload_n 1, 1)) rfl (lv_at hl 1 rfl) ?_
  refine lv_aload_n hx hb (by decide +kernel : decode prog_21_method_2_code 1 = .ok (.aload_n 0, 1)) rfl (lv_at hl 0 rfl) ?_
  refine va_tlen hx hb hT va_S.rf rfl (by decide +kernel : decode prog_21_method_2_code 2 = .ok (.arraylength, 1)) ?_
  refine st_callS (As := [.int i, .int (Int32.ofNat t.length)]) (rest := []) (n := 2) (d := 1) (bytes := prog_20_method_155_code) (maxL := 2) (ret := none) hx hb hml hown hts (st_M_ck (a := a) (v := v) (t := t) hi0 hlt) st_blind st_w737 st_w735 st_w736 st_w17 ⟨by decide, by decide, by decide +kernel⟩ rfl ⟨Nat.le_refl 2, by show 8 + (2 + 11) + 40 * 1 ≤ 40 * 2; omega⟩ ⟨Nat.le_refl 0, Nat.le_refl 0⟩ (fun U h1 h2 => st_B_moved h2.alike h1 hB) hl.1 (by decide) (by decide +kernel : decode prog_21_method_2_code 3 = .ok (.invokestatic 9, 3)) ?_
  refine lv_aload_n hx hb (by decide +kernel : decode prog_21_method_2_code 6 = .ok (.aload_n 0, 1)) rfl (lv_at hl 0 rfl) ?_
  refine lv_iload_n hx hb (by decide +kernel : decode prog_21_method_2_code 7 = .ok (.iload_n 1, 1)) rfl (lv_at hl 1 rfl) ?_
  refine va_tb hx hb hT va_S.rf hi rfl (by decide +kernel : decode prog_21_method_2_code 8 = .ok (.baload, 1)) ?_
  refine lv_sipush hx hb (by decide +kernel : decode prog_21_method_2_code 9 = .ok (.sipush 255, 3)) (v := 255) (by decide) ?_
  refine lv_iand hx hb (by decide +kernel : decode prog_21_method_2_code 12 = .ok (.iand, 1)) ?_
  rw [h8 i.toNatClampNeg (by omega)]
  have hr := h8 i.toNatClampNeg (by omega)
  generalize t.getD i.toNatClampNeg 0 = z at hr
  have hz : (z.toUInt32 % 65536).toInt32 = z ∧ narrow .char (.int z) = .int z := st_char hr
  refine lv_i2c hx hb (by decide +kernel : decode prog_21_method_2_code 13 = .ok (.i2c, 1)) hz.1 ?_
  exact W.zret hx hb B.returns hz.2 (fun t ht _ => ⟨rfl, ht⟩) (fun q hq => by cases hq) (by decide +kernel : decode prog_21_method_2_code 14 = .ok (.ireturn, 1)) B.notSynchronized
theorem st_M_lat : st_M l st_lat (Cond.code st_lat prog_20_method_154_code 1 (some .boolean) :: mm_tb) 0 [.ref a] (st_B a v t) (some (.int 1)) := by
  refine Met.ofW (cc := prog_20_method_154_code) (maxL := 1) (ret := some .boolean) (by decide) rfl ?_
  intro p e s m args below meth c s₁ B hml hv
  obtain ⟨rfl, hB⟩ := hv
  have hx := B.exec
  have hb := B.bytes
  have hts0 := atoms_spec (ws := Cond.code st_lat prog_20_method_154_code 1 (some .boolean) :: mm_tb) B.pre
  have hts : ∀ w ∈ mm_tb, w.before _ s = true := fun w hw => hts0 w (List.mem_cons_of_mem _ hw)
  have hown : s.vm.findClass "java/lang/String" = some m.cls := findClass_of_methodNamed B.named
  have hl : lv_has ((lg_sl [.ref a] ++ List.replicate (1 - (lg_sl [.ref a]).length) Slot.unset).toArray) 1 (lv_args 0 [.ref a]) := lv_entry _ (by show 1 ≤ 1; omega)
  rw [lg_entry_eq]
  generalize (lg_sl [.ref a] ++ List.replicate (1 - (lg_sl [.ref a]).length) Slot.unset).toArray = ls at hl
  refine va_gets hx hb hB.1 va_S.rf hown (hts _ st_w722) (fun _ z => z) (by decide +kernel : decode prog_20_method_154_code 0 = .ok (.getstatic 38, 3)) ?_
  refine lv_if_eq hx hb (by decide +kernel : decode prog_20_method_154_code 3 = .ok (.ifCond .eq 14, 3)) (tgt := 17) rfl (fun z => absurd z (by decide)) (fun _ => ?_)
  refine lv_aload_n hx hb (by decide +kernel : decode prog_20_method_154_code 6 = .ok (.aload_n 0, 1)) rfl (lv_at hl 0 rfl) ?_
  refine vk_getf hx hb hB.2.2.2.1 va_S.rf hown (hts _ st_w1786) (fun _ z => z) (by decide +kernel : decode prog_20_method_154_code 7 = .ok (.getfield 15, 3)) ?_
  refine lv_if_ne hx hb (by decide +kernel : decode prog_20_method_154_code 10 = .ok (.ifCond .ne 7, 3)) (tgt := 17) rfl (fun z => absurd rfl z) (fun _ => ?_)
  refine lv_iconst hx hb (by decide +kernel : decode prog_20_method_154_code 13 = .ok (.iconst 1, 1)) (v := 1) (by decide) ?_
  refine lv_goto hx hb (by decide +kernel : decode prog_20_method_154_code 14 = .ok (.goto 4, 3)) (tgt := 18) rfl ?_
  exact W.zret hx hb B.returns rfl (fun t ht _ => ⟨rfl, ht⟩) (fun q hq => by cases hq) (by decide +kernel : decode prog_20_method_154_code 18 = .ok (.ireturn, 1)) B.notSynchronized
theorem st_M_cod : st_M l st_cod (Cond.code st_cod prog_20_method_152_code 1 (some .byte) :: mm_tb) 0 [.ref a] (st_B a v t) (some (.int 0)) := by
  refine Met.ofW (cc := prog_20_method_152_code) (maxL := 1) (ret := some .byte) (by decide) rfl ?_
  intro p e s m args below meth c s₁ B hml hv
  obtain ⟨rfl, hB⟩ := hv
  have hx := B.exec
  have hb := B.bytes
  have hts0 := atoms_spec (ws := Cond.code st_cod prog_20_method_152_code 1 (some .byte) :: mm_tb) B.pre
  have hts : ∀ w ∈ mm_tb, w.before _ s = true := fun w hw => hts0 w (List.mem_cons_of_mem _ hw)
  have hown : s.vm.findClass "java/lang/String" = some m.cls := findClass_of_methodNamed B.named
  have hl : lv_has ((lg_sl [.ref a] ++ List.replicate (1 - (lg_sl [.ref a]).length) Slot.unset).toArray) 1 (lv_args 0 [.ref a]) := lv_entry _ (by show 1 ≤ 1; omega)
  rw [lg_entry_eq]
  generalize (lg_sl [.ref a] ++ List.replicate (1 - (lg_sl [.ref a]).length) Slot.unset).toArray = ls at hl
  refine va_gets hx hb hB.1 va_S.rf hown (hts _ st_w722) (fun _ z => z) (by decide +kernel : decode prog_20_method_152_code 0 = .ok (.getstatic 38, 3)) ?_
  refine lv_if_eq hx hb (by decide +kernel : decode prog_20_method_152_code 3 = .ok (.ifCond .eq 10, 3)) (tgt := 13) rfl (fun z => absurd z (by decide)) (fun _ => ?_)
  refine lv_aload_n hx hb (by decide +kernel : decode prog_20_method_152_code 6 = .ok (.aload_n 0, 1)) rfl (lv_at hl 0 rfl) ?_
  refine vk_getf hx hb hB.2.2.2.1 va_S.rf hown (hts _ st_w1786) (fun _ z => z) (by decide +kernel : decode prog_20_method_152_code 7 = .ok (.getfield 15, 3)) ?_
  refine lv_goto hx hb (by decide +kernel : decode prog_20_method_152_code 10 = .ok (.goto 4, 3)) (tgt := 14) rfl ?_
  exact W.zret hx hb B.returns rfl (fun t ht _ => ⟨rfl, ht⟩) (fun q hq => by cases hq) (by decide +kernel : decode prog_20_method_152_code 14 = .ok (.ireturn, 1)) B.notSynchronized
theorem st_recv {s : State} {a v : Nat} {t : List Int32} (hB : st_B a v t s) : ∃ cellB : Cell, s.heap[a]? = some cellB ∧ cellB.vm.isStatics = false ∧ s.vm.findClass "java/lang/String" = some cellB.cls := by
  obtain ⟨cell, h1, h2, h3, -⟩ := hB.2.2.1
  exact ⟨cell, h1, h2, h3⟩
theorem st_M_cha {i : Int32} (hi : vp_in i t.length) (hlen : t.length < 1000) (h8 : ∀ j, j < t.length → ((t.getD j 0) &&& 255) = t.getD j 0) : st_M l st_cha (Cond.code st_cha prog_20_method_56_code 2 (some .char) :: mm_tb) 3 [.ref a, .int i] (st_B a v t) (some (.int (t.getD i.toNatClampNeg 0))) := by
  refine Met.ofW (cc := prog_20_method_56_code) (maxL := 2) (ret := some .char) (by decide) rfl ?_
  intro p e s m args below meth c s₁ B hml hv
  obtain ⟨rfl, hB⟩ := hv
  have hx := B.exec
  have hb := B.bytes
  have hts0 := atoms_spec (ws := Cond.code st_cha prog_20_method_56_code 2 (some .char) :: mm_tb) B.pre
  have hts : ∀ w ∈ mm_tb, w.before _ s = true := fun w hw => hts0 w (List.mem_cons_of_mem _ hw)
  have hown : s.vm.findClass "java/lang/String" = some m.cls := findClass_of_methodNamed B.named
  have hl : lv_has ((lg_sl [.ref a, .int i] ++ List.replicate (2 - (lg_sl [.ref a, .int i]).length) Slot.unset).toArray) 2 (lv_args 0 [.ref a, .int i]) := lv_entry _ (by show 2 ≤ 2; omega)
  rw [lg_entry_eq]
  generalize (lg_sl [.ref a, .int i] ++ List.replicate (2 - (lg_sl [.ref a, .int i]).length) Slot.unset).toArray = ls at hl
  refine lv_aload_n hx hb (by decide +kernel : decode prog_20_method_56_code 0 = .ok (.aload_n 0, 1)) rfl (lv_at hl 0 rfl) ?_
  refine st_callV (As := []) (rest := []) (n := 0) (d := 0) (bytes := prog_20_method_154_code) (maxL := 1) (ret := some .boolean) hx hb hml hown hts (st_M_lat (a := a) (v := v) (t := t)) st_blind st_w731 st_w728 st_w729 st_w730 st_w17 ⟨by decide, by decide, by decide +kernel⟩ rfl ⟨by show 1 ≤ 3; omega, by show 8 + (1 + 11) + 40 * 0 ≤ 40 * 3; omega⟩ ⟨Nat.le_refl 0, Nat.le_refl 0⟩ (st_recv hB) (fun U h1 h2 => st_B_moved h2.alike h1 hB) hl.1 (by decide) (by decide +kernel : decode prog_20_method_56_code 1 = .ok (.invokevirtual 492, 3)) ?_
  refine lv_if_eq hx hb (by decide +kernel : decode prog_20_method_56_code 4 = .ok (.ifCond .eq 12, 3)) (tgt := 16) rfl (fun z => absurd z (by decide)) (fun _ => ?_)
  refine lv_aload_n hx hb (by decide +kernel : decode prog_20_method_56_code 7 = .ok (.aload_n 0, 1)) rfl (lv_at hl 0 rfl) ?_
  refine vk_getf hx hb hB.2.2.2.2.1 va_S.rf hown (hts _ st_w1785) (fun _ z => z) (by decide +kernel : decode prog_20_method_56_code 8 = .ok (.getfield 9, 3)) ?_
  refine lv_iload_n hx hb (by decide +kernel : decode prog_20_method_56_code 11 = .ok (.iload_n 1, 1)) rfl (lv_at hl 1 rfl) ?_
  refine st_callS (As := [.ref v, .int i]) (rest := []) (n := 2) (d := 2) (bytes := prog_21_method_2_code) (maxL := 2) (ret := some .char) hx hb hml hown hts (st_M_l1c (a := a) (v := v) (t := t) hi hlen h8) st_blind st_w734 st_w732 st_w733 st_w18 ⟨by decide, by decide, by decide +kernel⟩ rfl ⟨Nat.le_refl 3, by show 8 + (2 + 11) + 40 * 2 ≤ 40 * 3; omega⟩ ⟨Nat.le_refl 0, Nat.le_refl 0⟩ (fun U h1 h2 => st_B_moved h2.alike h1 hB) hl.1 (by decide) (by decide +kernel : decode prog_20_method_56_code 12 = .ok (.invokestatic 495, 3)) ?_
  have hr := h8 i.toNatClampNeg (Nat.not_le.mp fun z => hi (Or.inr z))
  generalize t.getD i.toNatClampNeg 0 = z at hr
  exact W.zret hx hb B.returns (st_char hr).2 (fun t ht _ => ⟨rfl, ht⟩) (fun q hq => by cases hq) (by decide +kernel : decode prog_20_method_56_code 15 = .ok (.ireturn, 1)) B.notSynchronized
theorem st_M_len (hlen : t.length < 1000) : st_M l st_len (Cond.code st_len prog_20_method_54_code 1 (some .int) :: mm_tb) 1 [.ref a] (st_B a v t) (some (.int (Int32.ofNat t.length))) := by
  refine Met.ofW (cc := prog_20_method_54_code) (maxL := 1) (ret := some .int) (by decide) rfl ?_
  intro p e s m args below meth c s₁ B hml hv
  obtain ⟨rfl, hB⟩ := hv
  have hx := B.exec
  have hb := B.bytes
  have hts0 := atoms_spec (ws := Cond.code st_len prog_20_method_54_code 1 (some .int) :: mm_tb) B.pre
  have hts : ∀ w ∈ mm_tb, w.before _ s = true := fun w hw => hts0 w (List.mem_cons_of_mem _ hw)
  have hown : s.vm.findClass "java/lang/String" = some m.cls := findClass_of_methodNamed B.named
  have hl : lv_has ((lg_sl [.ref a] ++ List.replicate (1 - (lg_sl [.ref a]).length) Slot.unset).toArray) 1 (lv_args 0 [.ref a]) := lv_entry _ (by show 1 ≤ 1; omega)
  rw [lg_entry_eq]
  generalize (lg_sl [.ref a] ++ List.replicate (1 - (lg_sl [.ref a]).length) Slot.unset).toArray = ls at hl
  refine lv_aload_n hx hb (by decide +kernel : decode prog_20_method_54_code 0 = .ok (.aload_n 0, 1)) rfl (lv_at hl 0 rfl) ?_
  refine vk_getf hx hb hB.2.2.2.2.1 va_S.rf hown (hts _ st_w1785) (fun _ z => z) (by decide +kernel : decode prog_20_method_54_code 1 = .ok (.getfield 9, 3)) ?_
  refine va_tlen hx hb hB.2.2.2.2.2 va_S.rf rfl (by decide +kernel : decode prog_20_method_54_code 4 = .ok (.arraylength, 1)) ?_
  refine lv_aload_n hx hb (by decide +kernel : decode prog_20_method_54_code 5 = .ok (.aload_n 0, 1)) rfl (lv_at hl 0 rfl) ?_
  refine st_callV (As := []) (rest := [.int (Int32.ofNat t.length)]) (n := 0) (d := 0) (bytes := prog_20_method_152_code) (maxL := 1) (ret := some .byte) hx hb hml hown hts (st_M_cod (a := a) (v := v) (t := t)) st_blind st_w721 st_w718 st_w719 st_w720 st_w17 ⟨by decide, by decide, by decide +kernel⟩ rfl ⟨by show 1 ≤ 1; omega, by show 8 + (1 + 11) + 40 * 0 ≤ 40 * 1; omega⟩ ⟨Nat.le_refl 0, Nat.le_refl 0⟩ (st_recv hB) (fun U h1 h2 => st_B_moved h2.alike h1 hB) hl.1 (by show 1 ≤ 8; omega) (by decide +kernel : decode prog_20_method_54_code 6 = .ok (.invokevirtual 335, 3)) ?_
  refine lv_ishr hx hb (by decide +kernel : decode prog_20_method_54_code 9 = .ok (.ishr, 1)) ?_
  rw [show Int32.ofNat t.length >>> ((0 : Int32) &&& 31) = Int32.ofNat t.length from st_shr _]
  exact W.iret hx hb B.returns (fun t ht _ => ⟨rfl, ht⟩) (fun q hq => by cases hq) (by decide +kernel : decode prog_20_method_54_code 10 = .ok (.ireturn, 1)) B.notSynchronized
end STC
/-- what was owed of Strings -/
theorem mm_AS_ok {l : Launch} {E : mm_E} {D : va_G} {cs : ClassId × ClassId × ClassId} : mm_AS l E D cs := by
  intro p e R s m args below meth c h0 hf Q x C a t pc k h H locs cells slots ls rest ht hd hw hI hL hcc
  obtain ⟨hx, hb, hml, hown, hts, -, ho, hK, hA, hR, hR2, hRO⟩ := C
  obtain ⟨-, -, -, -, -, -, hTX, hZ, hZq, -⟩ := hRO
  obtain ⟨v, t1, t2, t3, t4, t5, t6⟩ := hTX a t ht
  have hnF : ∀ q, st_F q → mm_A h0.1 s.heap.size q := fun q z => z.elim
  have hS := hI.2.1
  have hrm : cells ≤ R.cells ∧ slots ≤ R.slots := by
    have a1 := hI.2.2.2.1
    have a2 := hI.2.2.2.2
    obtain ⟨b1, b2⟩ := hR
    obtain ⟨c1, c2⟩ := hcc
    exact ⟨by omega, by omega⟩
  have hB : ∀ U : State, U.heap = H → s.WarmedH U.vm → st_B a v t U := by
    intro U hU hW
    have hv := hW.alike
    unfold st_B
    rw [hU]
    exact ⟨(va_Z.moved hv (hZ.kept hS.2.1)).narrow hnF, (va_Zq.moved hv (hZq.kept hS.2.1)).narrow hnF, (va_O.moved hv (t1.kept hS.2.1)).narrow hnF, (va_OF.moved hv (t2.kept hS.2.1)).narrow hnF, (va_OF.moved hv (t3.kept hS.2.1)).narrow hnF, (va_T.moved hv (t4.kept hS.2.1)).narrow hnF⟩
  have hcell : ∃ cellB : Cell, H[a]? = some cellB ∧ cellB.vm.isStatics = false ∧ s.vm.findClass "java/lang/String" = some cellB.cls := by
    obtain ⟨cell, q1, q2, q3, -⟩ := t1.kept hS.2.1
    exact ⟨cell, q1, q2, q3⟩
  have hw8 : (rest.map fun v => v.category).sum ≤ 8 := by
    have z := mm_lw8 (m := m) (pc := pc) (ls := ls) (st := rest) hw
    have z2 : 2 * (F0 m pc ls rest).monitorRoom + (rest.map fun v => v.category).sum ≤ 8 := z
    omega
  refine ⟨fun m1 kk => ?_, fun m1 i hi kk => ?_⟩
  · exact st_callV (As := []) (rest := rest) (n := 0) (d := 1) (bytes := prog_20_method_54_code) (maxL := 1) (ret := some .int) hx hb hml hown hts (st_M_len (a := a) (v := v) (t := t) t5) st_blind st_w717 m1 st_w715 st_w716 st_w17 ⟨by decide, by decide, by decide +kernel⟩ rfl ⟨by omega, by omega⟩ hrm hcell hB hL hw8 hd (kk locs hS)
  · exact st_callV (As := [.int i]) (rest := rest) (n := 1) (d := 3) (bytes := prog_20_method_56_code) (maxL := 2) (ret := some .char) hx hb hml hown hts (st_M_cha (a := a) (v := v) (t := t) hi t5 t6) st_blind st_w727 m1 st_w725 st_w726 st_w17 ⟨by decide, by decide, by decide +kernel⟩ rfl ⟨by omega, by omega⟩ hrm hcell hB hL hw8 hd (kk locs hS)
