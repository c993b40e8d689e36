/-! THE LAW's WRAPPERS: what they catch -/
def mm_h2 (x : mm_I) (v : Int32) (pc : Nat) : Bool := match mm_ins x pc with
  | some (_, .iconst n, 1) => decide (Int32.ofInt n = v) && (match mm_ins x (pc + 1) with
    | some (_, .ireturn, 1) => true
    | _ => false)
  | _ => false
def mm_h1 (x : mm_I) (q : Nat × Int32) (z : Nat × Nat × Nat × Nat) : Bool := ((Nat.beq q.1 0 && Nat.beq z.2.2.2 18) || (Nat.beq q.1 1 && Nat.beq z.2.2.2 13)) && (match mm_ins x z.2.2.1 with
  | some (_, .astore_n k, 1) => Nat.ble (k.val + 1) x.1.2.2.1 && mm_h2 x q.2 (z.2.2.1 + 1)
  | some (_, .astore k, 2) => Nat.ble (k + 1) x.1.2.2.1 && mm_h2 x q.2 (z.2.2.1 + 2)
  | _ => false)
def mm_hz (x : mm_I) : List (Nat × Int32) → List (Nat × Nat × Nat × Nat) → Bool
  | [], [] => true
  | q :: hs, z :: hh => mm_h1 x q z && mm_hz x hs hh
  | _, _ => false
def mm_cv (x : mm_I) (hh : List (Nat × Nat × Nat × Nat)) : Bool := x.2.2.2.all (fun ch => ch.all (fun q => match q.2.1 with
  | .invokevirtual _ => hh.all (fun z => Nat.ble z.1 q.1 && Nat.ble (q.1 + 1) z.2.1)
  | .invokestatic _ => hh.all (fun z => Nat.ble z.1 q.1 && Nat.ble (q.1 + 1) z.2.1)
  | .invokespecial _ => hh.all (fun z => Nat.ble z.1 q.1 && Nat.ble (q.1 + 1) z.2.1)
  | _ => true))
def mm_hq (j : Nat) : Bool := (mm_hh j).isEmpty || (Nat.beq (mm_x j).2.1.1 10 && (Nat.beq (mm_x j).2.1.2.2 1 && ((mm_x j).2.2.1.2.1.isEmpty && (!((mm_x j).2.2.1.2.2.isEmpty) && (mm_cv (mm_x j) (mm_hh j) && mm_hz (mm_x j) (mm_x j).2.2.1.2.2 (mm_hh j))))))
theorem mm_hq_all : (List.range 287).all mm_hq = true := by decide +kernel
theorem mm_hz_find {x : mm_I} : ∀ (hs : List (Nat × Int32)) (hh : List (Nat × Nat × Nat × Nat)), mm_hz x hs hh = true → ∀ (y : Nat) (q : Nat × Int32), hs.find? (fun q => Nat.beq q.1 y) = some q → ∃ pre z suf, hh = pre ++ z :: suf ∧ mm_h1 x q z = true ∧ q.1 = y ∧ ∀ w ∈ pre, ∃ q', mm_h1 x q' w = true ∧ q'.1 ≠ y
  | [], _, _, y, q, hf => by cases hf
  | _ :: _, [], h, y, q, hf => by cases h
  | q0 :: hs, z0 :: hh, h, y, q, hf => by
    have h : (mm_h1 x q0 z0 && mm_hz x hs hh) = true := h
    rw [Bool.and_eq_true] at h
    rw [List.find?_cons] at hf
    cases hb : Nat.beq q0.1 y with
    | true =>
      rw [hb] at hf
      have e : q0 = q := Option.some.inj hf
      subst e
      exact ⟨[], z0, hh, rfl, h.1, Nat.eq_of_beq_eq_true hb, fun w hw => absurd hw List.not_mem_nil⟩
    | false =>
      rw [hb] at hf
      obtain ⟨pre, z, suf, e1, e2, e3, e4⟩ := mm_hz_find hs hh h.2 y q hf
      refine ⟨z0 :: pre, z, suf, by rw [e1]; rfl, e2, e3, fun w hw => ?_⟩
      rcases List.mem_cons.mp hw with e | hw
      · subst e
        exact ⟨q0, h.1, Nat.ne_of_beq_eq_false hb⟩
      · exact e4 w hw
theorem mm_h1_ct {x : mm_I} {q : Nat × Int32} {z : Nat × Nat × Nat × Nat} (h : mm_h1 x q z = true) : (q.1 = 0 ∧ z.2.2.2 = 18) ∨ (q.1 = 1 ∧ z.2.2.2 = 13) := by
  unfold mm_h1 at h
  rw [Bool.and_eq_true, Bool.or_eq_true, Bool.and_eq_true, Bool.and_eq_true] at h
  rcases h.1 with ⟨a, b⟩ | ⟨a, b⟩
  · exact Or.inl ⟨Nat.eq_of_beq_eq_true a, Nat.eq_of_beq_eq_true b⟩
  · exact Or.inr ⟨Nat.eq_of_beq_eq_true a, Nat.eq_of_beq_eq_true b⟩
theorem mm_w610 : Cond.classLink "PromisedStockLaw" 13 "java/lang/IllegalArgumentException" ∈ mm_tb := mm_tb_of (List.mem_of_getElem? (i := 611) (by decide +kernel)) rfl
theorem mm_w838 : Cond.classLink "PromisedStockLaw" 18 "java/util/NoSuchElementException" ∈ mm_tb := mm_tb_of (List.mem_of_getElem? (i := 839) (by decide +kernel)) rfl
section MMT
variable {p : Program} {l : Launch} {e : Env} {R : Room} {s : State} {m : MethodId} {args : Array Value} {below : List Frame} {meth : Method} {c : Code} {D : va_G} {cs : ClassId × ClassId × ClassId} {A : Nat → Prop} {h0 hf h : mm_H} {Q : State → Prop} {o : mm_O} {E : mm_E} {x : mm_I} {H : Heap} {locs : List Loc} {cells slots pc : Nat} {L : mm_L} {ls : Array Slot}
/-- iconst; ireturn -/
theorem mm_h2_W (hc : mm_dc x = true) (hx : p.tables.exec = Jvm.exec) (hb : c.code = x.1.2.1) (h1 : x.2.1.2.2 = 1) (HR : mm_HR p l e R s m args below meth c D cs A h0 hf Q o x) {v : Int32} (ho : o = .inl (some (.int v))) (h : mm_h2 x v pc = true) (hI : mm_Iv s D cs A h0 hf H locs cells slots) :
    W p l e R s m args below meth c H locs cells slots Q (F0 m pc ls []) := by
  unfold mm_h2 at h
  split at h
  · next q0 n hi =>
    rw [Bool.and_eq_true] at h
    have hv := of_decide_eq_true h.1
    have h := h.2
    split at h
    · next q1 hi1 =>
      have d1 := (mm_ins_of hc hi).1
      have d2 := (mm_ins_of hc hi1).1
      refine lv_iconst hx hb d1 hv ?_
      exact HR (some (.int v)) (pc + 1) H locs cells slots ls ho (Or.inr ⟨v, rfl, d2, Or.inl h1⟩) hI
    · cases h
  · cases h
theorem mm_h1_W (hc : mm_dc x = true) (hx : p.tables.exec = Jvm.exec) (hb : c.code = x.1.2.1) (h1 : x.2.1.2.2 = 1) (HR : mm_HR p l e R s m args below meth c D cs A h0 hf Q o x) {q : Nat × Int32} {z : Nat × Nat × Nat × Nat} (ho : o = .inl (some (.int q.2))) (h : mm_h1 x q z = true) (hI : mm_Iv s D cs A h0 hf H locs cells slots) (hL : mm_lr ls x.1.2.2.1 L) {a : Nat} :
    W p l e R s m args below meth c H locs cells slots Q (F0 m z.2.2.1 ls [.ref a]) := by
  unfold mm_h1 at h
  rw [Bool.and_eq_true] at h
  have h := h.2
  split at h
  · next q0 k hi =>
    rw [Bool.and_eq_true] at h
    have hk := Nat.le_of_ble_eq_true h.1
    exact lv_astore_n hx hb (mm_ins_of hc hi).1 rfl (mm_lr_has hL) (by omega) rfl (fun ls' _ => mm_h2_W hc hx hb h1 HR ho h.2 hI)
  · next q0 k hi =>
    rw [Bool.and_eq_true] at h
    have hk := Nat.le_of_ble_eq_true h.1
    exact lv_astore hx hb (mm_ins_of hc hi).1 (mm_lr_has hL) (by omega) rfl (fun ls' _ => mm_h2_W hc hx hb h1 HR ho h.2 hI)
  · cases h
end MMT
theorem mm_cv_at {x : mm_I} {hh : List (Nat × Nat × Nat × Nat)} {pc len : Nat} {i : Instr} (h : mm_cv x hh = true) (hin : ∃ q0, mm_ins x pc = some (q0, i, len)) (hi : ∃ k, i = .invokevirtual k ∨ i = .invokestatic k ∨ i = .invokespecial k) : ∀ z ∈ hh, z.1 ≤ pc ∧ pc < z.2.1 := by
  obtain ⟨q0, hin⟩ := hin
  unfold mm_ins at hin
  have h1 := List.mem_of_find?_eq_some hin
  have h2 := List.find?_some (p := fun q : Nat × Instr × Nat => Nat.beq q.1 pc) hin
  have h2 : q0 = pc := Nat.eq_of_beq_eq_true h2
  subst h2
  have hne : x.2.2.2[q0 / 32]? = some (x.2.2.2.getD (q0 / 32) []) := by
    rw [List.getD_eq_getElem?_getD]
    cases hz : x.2.2.2[q0 / 32]? with
    | none => rw [List.getD_eq_getElem?_getD, hz] at h1; exact absurd h1 List.not_mem_nil
    | some z => rfl
  have h3 := List.all_eq_true.mp (List.all_eq_true.mp h _ (List.mem_of_getElem? hne)) _ h1
  intro z hz
  have h4 : hh.all (fun z => Nat.ble z.1 q0 && Nat.ble (q0 + 1) z.2.1) = true := by
    obtain ⟨k, rfl | rfl | rfl⟩ := hi
    · exact h3
    · exact h3
    · exact h3
  have h5 := List.all_eq_true.mp h4 z hz
  rw [Bool.and_eq_true] at h5
  exact ⟨Nat.le_of_ble_eq_true h5.1, Nat.le_of_ble_eq_true h5.2⟩
theorem mm_AT_ok {l : Launch} {E : mm_E} {D : va_G} {cs : ClassId × ClassId × ClassId} : mm_AT l E D cs := by
  intro p e R s m args below meth c h0 hf o j hj hj2 C hh0 htab hlocks hsig
  have hq := List.all_eq_true.mp mm_hq_all j (List.mem_range.mpr hj)
  unfold mm_hq at hq
  rw [hh0, Bool.false_or, Bool.and_eq_true, Bool.and_eq_true, Bool.and_eq_true, Bool.and_eq_true, Bool.and_eq_true] at hq
  obtain ⟨q1, q2, q3, q4, q5, q6⟩ := hq
  have q1 := Nat.eq_of_beq_eq_true q1
  have q2 := Nat.eq_of_beq_eq_true q2
  have q3 := List.isEmpty_iff.mp q3
  have hrt := (mm_kf hj hj2).2.2.2.2.2.2.2.2.2.2.1
  have HR := mm_ret (l := l) (e := e) (R := R) (s := s) (m := m) (args := args) (below := below) (D := D) (cs := cs) (h0 := h0) (hf := hf) (o := o) C.1 C.2.1 hlocks hsig hrt
  have hown : s.vm.findClass "PromisedStockLaw" = some m.cls := by
    have z := C.2.2.2.1
    rw [q1] at z
    exact z
  have hts := C.2.2.2.2.1
  have hRO := C.2.2.2.2.2.2.2.2.2.2.2
  obtain ⟨-, -, -, -, -, -, -, -, -, -, -, nc1, nc2, hnb⟩ := hRO
  refine ⟨?_, ?_⟩
  · intro y i len pc H locs cells slots ls rest q ce hth hin hii hI hLL hce hcv hcl
    obtain ⟨L, hL⟩ := hLL
    have hcov := mm_cv_at q5 hin hii
    unfold mm_th at hth
    split at hth
    · next qq hfi =>
      have ho : o = .inl (some (.int qq.2)) := (congrArg Prod.fst (Option.some.inj hth)).symm
      obtain ⟨pre, z, suf, e1, e2, e3, e4⟩ := mm_hz_find _ _ q6 y qq hfi
      have hsplit : c.exceptionTable.toList = tableOf pre ++ (⟨z.1, z.2.1, z.2.2.1, z.2.2.2⟩ : ExceptionTableEntry) :: tableOf suf := by
        rw [htab, e1]
        unfold tableOf
        rw [List.map_append, List.map_cons]
      have hcz := hcov z (by rw [e1]; exact List.mem_append_right _ List.mem_cons_self)
      have hx : covers (⟨z.1, z.2.1, z.2.2.1, z.2.2.2⟩ : ExceptionTableEntry) pc = true := by
        unfold covers
        simp [hcz.1, hcz.2]
      have lnk : ∀ (q' : Nat × Int32) (w : Nat × Nat × Nat × Nat), mm_h1 (mm_x j) q' w = true → w.2.2.2 ≠ 0 ∧ (q'.1 = 0 ∨ q'.1 = 1) ∧ (Cond.classLink "PromisedStockLaw" w.2.2.2 (mm_xn q'.1)).before args s = true := by
        intro q' w hw
        rcases mm_h1_ct hw with ⟨a, b⟩ | ⟨a, b⟩
        · rw [a, b]; exact ⟨by decide, Or.inl rfl, hts _ mm_w838⟩
        · rw [a, b]; exact ⟨by decide, Or.inr rfl, hts _ mm_w610⟩
      obtain ⟨z0, hy, zl⟩ := lnk qq z e2
      rw [e3] at zl hy
      have hcast : (Cond.castable (mm_xn y) (mm_xn y)).before args s = true := by
        rcases hy with rfl | rfl
        · exact va_Nw.use rfl (hnb _ (by simp only [mm_nb]; exact List.mem_cons_self))
        · exact va_Nw.use rfl (hnb _ (by simp only [mm_nb]; exact List.mem_cons_of_mem _ List.mem_cons_self))
      refine vx_catch hown (tableOf pre) _ (tableOf suf) hsplit ?_ hx z0 zl hcast hce hcv hcl ?_
      · intro w hw
        obtain ⟨w', hw', rfl⟩ := List.mem_map.mp hw
        obtain ⟨q', f1, f2⟩ := e4 w' hw'
        obtain ⟨g1, g2, g3⟩ := lnk q' w' f1
        refine Or.inr ⟨g1, _, g3, ?_⟩
        rcases hy with rfl | rfl
        · rcases g2 with g2 | g2
          · exact absurd g2 f2
          · rw [g2]; exact nc1
        · rcases g2 with g2 | g2
          · rw [g2]; exact nc2
          · exact absurd g2 f2
      · exact mm_h1_W (mm_dc_all j) C.1 C.2.1 q2 HR ho e2 hI hL
    · have z := (mm_bif_of hth).1
      rw [z] at q4
      cases q4
  · intro q k pc h H locs cells slots ls st hfi
    rw [q3] at hfi
    cases hfi
