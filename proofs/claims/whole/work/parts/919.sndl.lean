/-! SOUNDNESS, twelfth part: methods, by the depth of their calls -/
section MML
variable {p : Program} {l : Launch} {e : Env} {R : Room} {s : State} {m : MethodId} {args : Array Value} {below : List Frame} {meth : Method} {c : Code} {D : va_G} {cs : ClassId × ClassId × ClassId} {A A' : Nat → Prop} {h0 hf h h' : mm_H} {Q : State → Prop} {o o' : mm_O} {E : mm_E} {cl : mm_F} {x : mm_I} {H H1 : Heap} {locs locs1 : List Loc} {cells slots nL pc d j k sz : Nat} {L : mm_L} {st rest as : List Value} {ls : Array Slot}
/-- where a method ends -/
abbrev mm_Z (below : List Frame) (D : va_G) (cs : ClassId × ClassId × ClassId) (h0 hf : mm_H) (o : mm_O) (sz : Nat) (args : Array Value) (s : State) : State → Prop := vx_MQ below (mm_Qr D cs h0 o hf sz) (mm_Qx D cs h0 o hf sz) args s (hf.2.2.1 - h0.2.2.1) (hf.2.2.2 - h0.2.2.2) (mm_A h0.1 sz)
/-- what is still owed of throws, of Strings, of the law's handlers: premises till they are proved -/
def mm_AN (l : Launch) (E : mm_E) (D : va_G) (cs : ClassId × ClassId × ClassId) : Prop := ∀ (p : Program) (e : Env) (R : Room) (s : State) (m : MethodId) (args : Array Value) (below : List Frame) (meth : Method) (c : Code) (h0 hf : mm_H) (o : mm_O) (j : Nat), j < 287 → mm_bad j = false → mm_cx p R s m args meth c D cs (mm_A h0.1 s.heap.size) h0 hf E (mm_x j) → (mm_hh j).isEmpty = true → (∀ z ∈ c.exceptionTable.toList, False) → meth.locks = false →
  mm_HN p l e R s m args below meth c D cs (mm_A h0.1 s.heap.size) h0 hf (mm_Z below D cs h0 hf o s.heap.size args s) o (mm_x j)
def mm_AS (l : Launch) (E : mm_E) (D : va_G) (cs : ClassId × ClassId × ClassId) : Prop := ∀ (p : Program) (e : Env) (R : Room) (s : State) (m : MethodId) (args : Array Value) (below : List Frame) (meth : Method) (c : Code) (h0 hf : mm_H) (Q : State → Prop) (x : mm_I), mm_cx p R s m args meth c D cs (mm_A h0.1 s.heap.size) h0 hf E x →
  mm_ST p l e R s m args below meth c D cs (mm_A h0.1 s.heap.size) h0 hf Q E x
def mm_AT (l : Launch) (E : mm_E) (D : va_G) (cs : ClassId × ClassId × ClassId) : Prop := ∀ (p : Program) (e : Env) (R : Room) (s : State) (m : MethodId) (args : Array Value) (below : List Frame) (meth : Method) (c : Code) (h0 hf : mm_H) (o : mm_O) (j : Nat), j < 287 → mm_bad j = false → mm_cx p R s m args meth c D cs (mm_A h0.1 s.heap.size) h0 hf E (mm_x j) → (mm_hh j).isEmpty = false → c.exceptionTable.toList = tableOf (mm_hh j) → meth.locks = false → meth.sig.returnType = (mm_x j).1.2.2.2 →
  mm_HT p l e R s m args below meth c D cs (mm_A h0.1 s.heap.size) h0 hf (mm_Z below D cs h0 hf o s.heap.size args s) o (mm_x j) ∧ mm_HN p l e R s m args below meth c D cs (mm_A h0.1 s.heap.size) h0 hf (mm_Z below D cs h0 hf o s.heap.size args s) o (mm_x j)
theorem mm_B_of (hI : mm_Iv s D cs (mm_A h0.1 s.heap.size) h0 hf H locs cells slots) {t : State} (ht : t.heap = H) : mm_B D cs h0 hf s.heap.size t := by
  obtain ⟨hH, -, hN, -⟩ := hI
  refine ⟨by rw [ht]; exact hH, fun n hn => ?_⟩
  obtain ⟨a, b, c⟩ := hN n hn
  exact ⟨by rw [ht]; exact a, b, c⟩
/-- a method's return -/
theorem mm_ret (hx : p.tables.exec = Jvm.exec) (hb : c.code = x.1.2.1) (hlocks : meth.locks = false) (hsig : meth.sig.returnType = x.1.2.2.2) (hrt : x.1.2.2.2 = if x.2.1.2.2 = 0 then none else if x.2.1.2.2 = 1 then some .int else some .boolean) :
    mm_HR p l e R s m args below meth c D cs (mm_A h0.1 s.heap.size) h0 hf (mm_Z below D cs h0 hf o s.heap.size args s) o x := by
  intro v pc H locs cells slots ls ho hv hI
  have hS := hI.2.1
  have hc : hf.2.2.1 - h0.2.2.1 = cells := by have := hI.2.2.2.1; omega
  have hs : hf.2.2.2 - h0.2.2.2 = slots := by have := hI.2.2.2.2; omega
  unfold mm_Z
  rw [hc, hs]
  refine vx_ret ?_
  have hq : ∀ t : State, t.heap = H → s.WarmedH t.vm → mm_Qr D cs h0 o hf s.heap.size args s (.returned v) t := fun t ht _ => ⟨⟨v, ho, rfl⟩, mm_B_of hI ht, hS.F ht⟩
  rcases hv with ⟨rfl, h1, h2⟩ | ⟨n, rfl, h1, h2⟩
  · exact W.vret hx hb (by rw [hsig, hrt, if_pos h1]) hq hS.2.2 h2 hlocks
  · rcases h2 with h2 | ⟨h2, h3⟩
    · exact W.iret hx hb (by rw [hsig, hrt, h2]; rfl) hq hS.2.2 h1 hlocks
    · exact W.zret hx hb (ty := .boolean) (by rw [hsig, hrt, h2]; rfl) (by rcases h3 with rfl | rfl <;> rfl) hq hS.2.2 h1 hlocks
/-- a throw that leaves a method without handlers -/
theorem mm_out (hhs : x.2.2.1.2.2 = []) (htab : ∀ z ∈ c.exceptionTable.toList, False) (hlocks : meth.locks = false) :
    mm_HT p l e R s m args below meth c D cs (mm_A h0.1 s.heap.size) h0 hf (mm_Z below D cs h0 hf o s.heap.size args s) o x := by
  intro y i len pc H locs cells slots ls rest q ce hth _ _ hI _ hce hcv hcl
  rw [hhs] at hth
  have ho : o = .inr y := (congrArg Prod.fst (Option.some.inj hth)).symm
  have hS := hI.2.1
  have hcc := hI.2.2.2.1
  have hss := hI.2.2.2.2
  exact vx_out (fun z hz => (htab z hz).elim) hlocks hce hcv hcl (fun t ht _ => ⟨⟨y, ho, rfl⟩, mm_B_of hI ht, hS.F ht⟩) hS.2.2 (by omega) (by omega)
theorem mm_lay_eq : ∀ vs : List Value, (mm_lay vs).length = (lg_sl vs).length
  | [] => rfl
  | v :: vs => by
    have h := mm_lay_eq vs
    unfold mm_lay lg_sl at h ⊢
    rw [List.flatMap_cons, List.flatMap_cons, List.length_append, List.length_append, h]
    congr 1
    cases v <;> rfl
theorem mm_lay_at : ∀ (vs : List Value) (n i : Nat) (v : Value), (mm_lay vs ++ List.replicate n none)[i]? = some (some v) → ∀ b, (b + i, v) ∈ lv_args b vs
  | [], n, i, v, h, b => by
    simp only [mm_lay, List.flatMap_nil, List.nil_append] at h
    rw [List.getElem?_replicate] at h
    split at h <;> cases h
  | w :: vs, n, i, v, h, b => by
    have one : ∀ (hw : w.category = 1) (hl : mm_lay (w :: vs) = some w :: mm_lay vs), (b + i, v) ∈ lv_args b (w :: vs) := by
      intro hw hl
      rw [hl] at h
      show (b + i, v) ∈ (b, w) :: lv_args (if w.category = 2 then b + 2 else b + 1) vs
      rw [if_neg (by omega)]
      cases i with
      | zero => cases h; exact List.mem_cons_self
      | succ i =>
        have h2 := mm_lay_at vs n i v h (b + 1)
        rw [show b + 1 + i = b + (i + 1) by omega] at h2
        exact List.mem_cons_of_mem _ h2
    have two : ∀ (hw : w.category = 2) (hl : mm_lay (w :: vs) = some w :: none :: mm_lay vs), (b + i, v) ∈ lv_args b (w :: vs) := by
      intro hw hl
      rw [hl] at h
      show (b + i, v) ∈ (b, w) :: lv_args (if w.category = 2 then b + 2 else b + 1) vs
      rw [if_pos hw]
      match i, h with
      | 0, h => cases h; exact List.mem_cons_self
      | 1, h => cases h
      | i + 2, h =>
        have h2 := mm_lay_at vs n i v h (b + 2)
        rw [show b + 2 + i = b + (i + 2) by omega] at h2
        exact List.mem_cons_of_mem _ h2
    cases w with
    | long z => exact two rfl rfl
    | double z => exact two rfl rfl
    | int z => exact one rfl rfl
    | float z => exact one rfl rfl
    | null => exact one rfl rfl
    | ref z => exact one rfl rfl
    | retAddr z => exact one rfl rfl
theorem mm_ent_lr {n : Nat} (h : (mm_lay as).length ≤ n) : mm_lr ((lg_sl as ++ List.replicate (n - (lg_sl as).length) Slot.unset).toArray) n (mm_ent as n) := by
  have h1 := lv_entry as (n := n) (by rw [← mm_lay_eq]; exact h)
  refine ⟨h1.1, h1.2.1, ?_, fun i v hi => ?_⟩
  · unfold mm_ent
    rw [List.length_append, List.length_replicate]
    omega
  · have h2 := mm_lay_at as _ i v hi 0
    rw [Nat.zero_add] at h2
    exact h1.2.2 (i, v) h2
/-- ONE DEPTH MORE -/
theorem mm_Cl_succ (hdc : ∀ j, j < 287 → mm_dc (mm_x j) = true) (HAN : mm_AN l E D cs) (HAS : mm_AS l E D cs) (HAT : mm_AT l E D cs) (HC : mm_Cl l E D cs (mm_ev E d) d) : mm_Cl l E D cs (mm_ev E (d + 1)) (d + 1) := by
  intro j as h h' o hj hj2 hev
  have hmono := mm_mn_ev E (d + 1) j as h o h' hev
  obtain ⟨hck, hrun⟩ := mm_bif_of hev
  rw [Bool.and_eq_true] at hck
  obtain ⟨hrok, hlay⟩ := hck
  have hlay := Nat.le_of_ble_eq_true hlay
  refine ⟨hmono, hrok, d + 1, Nat.le_refl _, fun sz => ?_⟩
  obtain ⟨f1, f2, f3, f4, f5, f6, f7, f8, f9, f10, f11, f12, f13⟩ := mm_kf hj hj2
  have key : ∀ (p : Program) (e : Env) (s : State) (m : MethodId) (args : Array Value) (below : List Frame) (meth : Method) (c : Code) (s₁ : State), BodyLoose p l (mm_x j).1.1 (headSpec (mm_ws j) (mm_rm (d + 1) h h')) (mm_x j).1.2.1 (mm_x j).1.2.2.1 (mm_x j).1.2.2.2 e s m args below meth c s₁ → c.maxLocals = (mm_x j).1.2.2.1 → va_Pc as (mm_W E D cs h sz) args s →
      (mm_cx p (mm_rm (d + 1) h h') s m args meth c D cs (mm_A h.1 s.heap.size) h h' E (mm_x j) → mm_HT p l e (mm_rm (d + 1) h h') s m args below meth c D cs (mm_A h.1 s.heap.size) h h' (mm_Z below D cs h h' o s.heap.size args s) o (mm_x j) ∧ mm_HN p l e (mm_rm (d + 1) h h') s m args below meth c D cs (mm_A h.1 s.heap.size) h h' (mm_Z below D cs h h' o s.heap.size args s) o (mm_x j)) →
      W p l e (mm_rm (d + 1) h h') s m args below meth c s.heap [] 0 0 (mm_Z below D cs h h' o sz args s) (entryFrame m args (mm_x j).1.2.2.1) := by
    intro p e s m args below meth c s₁ B hml hv HTN
    obtain ⟨rfl, hsz, ⟨Ls, hLs, hP, hD⟩, hn, hK, hRO⟩ := hv
    subst hsz
    have hts0 := atoms_spec (ws := mm_ws j) B.pre
    have hown : s.vm.findClass (mm_x j).1.1.cls = some m.cls := findClass_of_methodNamed B.named
    have C : mm_cx p (mm_rm (d + 1) h h') s m as.toArray meth c D cs (mm_A h.1 s.heap.size) h h' E (mm_x j) := by
      refine ⟨B.exec, B.bytes, hml, by rw [f8]; exact hown, fun w hw => hts0 w (List.mem_cons_of_mem _ hw), (name_of_methodNamed B.named B.method).1, f9, hK, fun q hq => Or.inr hq, ⟨?_, ?_⟩, ⟨?_, ?_⟩, hRO⟩
      · show h'.2.2.1 ≤ h.2.2.1 + (h'.2.2.1 - h.2.2.1); have := hmono.1; omega
      · show h'.2.2.2 ≤ h.2.2.2 + (h'.2.2.2 - h.2.2.2); have := hmono.2; omega
      · show 12 ≤ d + 1 + 12; omega
      · show 200 ≤ 60 * (d + 1) + 200; omega
    obtain ⟨HT, HN⟩ := HTN C
    have g := mm_snd_run (hdc j hj) C HC ⟨by show d + 13 ≤ d + 1 + 12; omega, by show 60 * d + 240 ≤ 60 * (d + 1) + 200; omega⟩ HT (HAS p e _ s m _ below meth c h h' _ _ C) HN (mm_ret B.exec B.bytes B.notSynchronized B.returns f11) _ _ _ _ _ hrun
    rw [lg_entry_eq]
    refine g.2 s.heap [] 0 0 _ ⟨⟨Ls, hLs, hP, hD.weaken (fun k q hk _ => ?_)⟩, va_S.rf, fun n hn2 => ⟨hn n hn2, by have := hn n hn2; omega, by rw [hn2]; exact fun z => by cases z⟩, rfl, rfl⟩ (mm_ent_lr hlay)
    obtain ⟨a, ha, e1⟩ := List.mem_map.mp (List.mem_of_getElem? (show (va_pl Ls (mm_f cs h.1))[k]? = some q from hk))
    rw [← e1]
    exact Or.inl ((hLs a).mp ha)
  cases hz : (mm_hh j).isEmpty with
  | true =>
    have hws : mm_ws j = Cond.code (mm_x j).1.1 (mm_x j).1.2.1 (mm_x j).1.2.2.1 (mm_x j).1.2.2.2 :: mm_tb := by unfold mm_ws; rw [hz]; rfl
    refine vx_ofW f5 hws ?_
    intro p e s m args below meth c s₁ B hml ht hv
    exact key p e s m args below meth c s₁ B hml hv (fun C => ⟨mm_out (f3 hz).2 ht B.notSynchronized, HAN p e _ s m args below meth c h h' o j hj hj2 C hz ht B.notSynchronized⟩)
  | false =>
    have hws : mm_ws j = Cond.codeWith (mm_x j).1.1 (mm_x j).1.2.1 (mm_x j).1.2.2.1 (mm_x j).1.2.2.2 (mm_hh j) :: mm_tb := by unfold mm_ws; rw [hz]; rfl
    refine vx_ofWH f5 hws ?_
    intro p e s m args below meth c s₁ B hml hv
    have htab : c.exceptionTable.toList = tableOf (mm_hh j) := vx_table (x := (mm_x j).1.1) B (atoms_spec (ws := mm_ws j) B.pre _ (by rw [hws]; exact List.mem_cons_self))
    exact key p e s m args below meth c s₁ B hml hv (fun C => HAT p e _ s m args below meth c h h' o j hj hj2 C hz htab B.notSynchronized B.returns)
/-- CALLS OF ANY DEPTH -/
theorem mm_Cl_all (hdc : ∀ j, j < 287 → mm_dc (mm_x j) = true) (HAN : mm_AN l E D cs) (HAS : mm_AS l E D cs) (HAT : mm_AT l E D cs) : ∀ d, mm_Cl l E D cs (mm_ev E d) d
  | 0 => fun j as h h' o _ _ hev => by cases hev
  | d + 1 => mm_Cl_succ hdc HAN HAS HAT (mm_Cl_all hdc HAN HAS HAT d)
end MML
