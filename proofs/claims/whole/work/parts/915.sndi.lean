/-! SOUNDNESS, ninth part: the three calls -/
theorem mm_pop_of : ∀ (n : Nat) (acc st as r : List Value), mm_pop n acc st = some (as, r) → ∃ As, as = As ++ acc ∧ st = As.reverse ++ r ∧ As.length = n
  | 0, acc, st, as, r, h => by
    cases h
    exact ⟨[], rfl, rfl, rfl⟩
  | n + 1, acc, [], as, r, h => by cases h
  | n + 1, acc, v :: st, as, r, h => by
    obtain ⟨As, h1, h2, h3⟩ := mm_pop_of n (v :: acc) st as r h
    refine ⟨As ++ [v], by rw [h1]; simp, by rw [h2]; simp, by simp [h3]⟩
/-- what a call of method j asks -/
theorem mm_kf {j : Nat} (h : j < 287) (h2 : mm_bad j = false) : (mm_sta j = true → Cond.static (mm_x j).1.1 ∈ mm_tb ∧ (parseMethodDescriptor (mm_x j).1.1.desc).map (fun d => d.parameters.length) = some (mm_x j).2.1.2.1)
    ∧ (mm_sta j = false → Cond.instanceMethod (mm_x j).1.1 ∈ mm_tb ∧ (parseMethodDescriptor (mm_x j).1.1.desc).map (fun d => d.parameters.length + 1) = some (mm_x j).2.1.2.1)
    ∧ ((mm_hh j).isEmpty = true → Cond.code (mm_x j).1.1 (mm_x j).1.2.1 (mm_x j).1.2.2.1 (mm_x j).1.2.2.2 ∈ mm_tb ∧ (mm_x j).2.2.1.2.2 = [])
    ∧ ((mm_hh j).isEmpty = false → Cond.codeWith (mm_x j).1.1 (mm_x j).1.2.1 (mm_x j).1.2.2.1 (mm_x j).1.2.2.2 (mm_hh j) ∈ mm_tb ∧ mm_sta j = true)
    ∧ plainName (mm_x j).1.1.cls = true ∧ ((mm_x j).1.1.cls ≠ "java/lang/invoke/MethodHandle" ∧ (mm_x j).1.1.cls ≠ "java/lang/invoke/VarHandle") ∧ (mm_x j).1.2.2.1 ≤ 20 ∧ mm_cn (mm_x j).2.1.1 = (mm_x j).1.1.cls ∧ (mm_x j).2.1.1 < 14 ∧ Cond.initialized (mm_x j).1.1.cls ∈ mm_tb
    ∧ ((mm_x j).1.2.2.2 = if (mm_x j).2.1.2.2 = 0 then none else if (mm_x j).2.1.2.2 = 1 then some .int else some .boolean) ∧ (mm_ctr j = true → (mm_x j).1.1.name = "<init>") ∧ (mm_sta j = false → mm_ctr j = false → Cond.selects (mm_x j).1.1.cls (mm_x j).1.1 (mm_x j).1.1 ∈ mm_tb) := by
  have k := mm_kd_at h h2
  unfold mm_kd at k
  rw [Bool.and_eq_true, Bool.and_eq_true, Bool.and_eq_true, Bool.and_eq_true, Bool.and_eq_true, Bool.and_eq_true, Bool.and_eq_true, Bool.and_eq_true, Bool.and_eq_true, Bool.and_eq_true, Bool.and_eq_true] at k
  obtain ⟨k1, k2, k3, k4, k5, k6, k7, k8, k9, k10, k11, k12⟩ := k
  have k7 := of_decide_eq_true k7
  refine ⟨fun q => ?_, fun q => ?_, fun q => ?_, fun q => ?_, k3, ⟨of_decide_eq_true k4, of_decide_eq_true k5⟩, Nat.le_of_ble_eq_true k6, k7, Nat.le_of_ble_eq_true k8, ?_, of_decide_eq_true k10, fun q => ?_, fun q1 q2 => ?_⟩
  · rw [q, cond_true, Bool.and_eq_true] at k1
    exact ⟨mm_tb_cl k1.1 (show ¬ (6 : Nat) = 0 by decide) rfl, of_decide_eq_true k1.2⟩
  · rw [q, cond_false, Bool.and_eq_true] at k1
    exact ⟨mm_tb_cl k1.1 (show ¬ (7 : Nat) = 0 by decide) rfl, of_decide_eq_true k1.2⟩
  · rw [q, cond_true, Bool.and_eq_true] at k2
    exact ⟨mm_tb_cl k2.1 (show ¬ (4 : Nat) = 0 by decide) rfl, List.isEmpty_iff.mp k2.2⟩
  · rw [q, cond_false, Bool.and_eq_true] at k2
    exact ⟨mm_tb_cl k2.1 (show ¬ (5 : Nat) = 0 by decide) rfl, k2.2⟩
  · have hw : Cond.initialized (mm_cn (mm_x j).2.1.1) ∈ mm_tb := mm_tb_cl k9 (show ¬ (9 : Nat) = 0 by decide) rfl
    rw [k7] at hw
    exact hw
  · rw [q] at k11
    exact of_decide_eq_true (beq_iff_eq.mp k11).symm
  · rw [q1, q2, Bool.false_or, Bool.false_or, Bool.or_eq_true] at k12
    rcases k12 with k12 | k12
    · exact mm_tb_cl k12 (show ¬ (8 : Nat) = 0 by decide) rfl
    · obtain ⟨j', hj, e⟩ := List.any_eq_true.mp k12
      have e := Nat.eq_of_beq_eq_true e
      subst e
      have h9 : ¬ j' = 9999 := by omega
      have hm : ∃ w ∈ lw_privs, w.1 = (mm_x j').1.1 := by
        unfold mm_pj at hj
        unfold lw_privs
        simp only [List.mem_append] at hj ⊢
        rcases hj with hj | hj | hj | hj | hj | hj | hj | hj
        · obtain ⟨w, a, b⟩ := mm_pp_mem _ _ mm_pz1 _ hj h9; exact ⟨w, Or.inl a, b⟩
        · obtain ⟨w, a, b⟩ := mm_pp_mem _ _ mm_pz2 _ hj h9; exact ⟨w, Or.inr (Or.inl a), b⟩
        · obtain ⟨w, a, b⟩ := mm_pp_mem _ _ mm_pz3 _ hj h9; exact ⟨w, Or.inr (Or.inr (Or.inl a)), b⟩
        · obtain ⟨w, a, b⟩ := mm_pp_mem _ _ mm_pz4 _ hj h9; exact ⟨w, Or.inr (Or.inr (Or.inr (Or.inl a))), b⟩
        · obtain ⟨w, a, b⟩ := mm_pp_mem _ _ mm_pz5 _ hj h9; exact ⟨w, Or.inr (Or.inr (Or.inr (Or.inr (Or.inl a)))), b⟩
        · obtain ⟨w, a, b⟩ := mm_pp_mem _ _ mm_pz6 _ hj h9; exact ⟨w, Or.inr (Or.inr (Or.inr (Or.inr (Or.inr (Or.inl a))))), b⟩
        · obtain ⟨w, a, b⟩ := mm_pp_mem _ _ mm_pz7 _ hj h9; exact ⟨w, Or.inr (Or.inr (Or.inr (Or.inr (Or.inr (Or.inr (Or.inl a)))))), b⟩
        · obtain ⟨w, a, b⟩ := mm_pp_mem _ _ mm_pz8 _ hj h9; exact ⟨w, Or.inr (Or.inr (Or.inr (Or.inr (Or.inr (Or.inr (Or.inr a)))))), b⟩
      obtain ⟨w, hw, e⟩ := hm
      refine List.mem_filter.mpr ⟨List.mem_append_left _ (List.mem_map.mpr ⟨w, hw, by rw [e]⟩), rfl⟩
theorem mm_rok_of {j : Nat} {as : List Value} {h : mm_H} (hs : mm_sta j = false) (hr : mm_rok j as h = true) : ∃ b As ci fs, as = .ref b :: As ∧ h.1 b = some (.inl (ci, fs)) ∧ ci = (mm_x j).2.1.1 := by
  unfold mm_rok at hr
  rw [hs, cond_false] at hr
  split at hr
  · split at hr
    · next hc => exact ⟨_, _, _, _, rfl, hc, Nat.eq_of_beq_eq_true hr⟩
    · cases hr
  · cases hr
section MMI
variable {p : Program} {l : Launch} {e : Env} {R : Room} {s : State} {m : MethodId} {args : Array Value} {below : List Frame} {meth : Method} {c : Code} {D : va_G} {cs : ClassId × ClassId × ClassId} {A A' : Nat → Prop} {h0 hf h h' : mm_H} {Q : State → Prop} {o o' : mm_O} {E : mm_E} {cl : mm_F} {x : mm_I} {H H1 : Heap} {locs locs1 : List Loc} {cells slots nL pc d j k : Nat} {L : mm_L} {st rest as : List Value} {ls : Array Slot} {g : JFrame} {go : mm_K} {len : Nat} {U : State}
theorem mm_room2 (hR : hf.2.2.1 ≤ h0.2.2.1 + R.cells ∧ hf.2.2.2 ≤ h0.2.2.2 + R.slots) (hm : h.2.2.1 ≤ h'.2.2.1 ∧ h.2.2.2 ≤ h'.2.2.2) (hm2 : h'.2.2.1 ≤ hf.2.2.1 ∧ h'.2.2.2 ≤ hf.2.2.2) (hI : mm_Iv s D cs A h0 h H locs cells slots) : cells + (h'.2.2.1 - h.2.2.1) ≤ R.cells ∧ slots + (h'.2.2.2 - h.2.2.2) ≤ R.slots := by
  obtain ⟨-, -, -, a, b⟩ := hI
  omega
theorem mm_lw8 (h : Nat.ble (mm_wt rest) 8 = true) : 2 * (F0 m pc ls st).monitorRoom + (rest.map fun v => v.category).sum ≤ 8 := by
  have h1 := Nat.le_of_ble_eq_true h
  rw [mm_wt_eq] at h1
  exact lv_room h1
/-- the run of a call, by its kind -/
theorem mm_runs (C : mm_cx p R s m args meth c D cs A h0 hf E x) (HC : mm_Cl l E D cs cl d) (hRm : d + 13 ≤ R.frames ∧ 60 * d + 240 ≤ R.locals) (hj : j < 287) (hj2 : mm_bad j = false) (hcl : cl j as h = some (o', h')) (hm2 : h'.2.2.1 ≤ hf.2.2.1 ∧ h'.2.2.2 ≤ hf.2.2.2)
    (hI : mm_Iv s D cs A h0 h H locs cells slots) (hL : mm_lr ls x.1.2.2.1 L) (hpop : mm_pop (mm_x j).2.1.2.1 [] st = some (as, rest)) (hw : Nat.ble (mm_wt rest) 8 = true)
    (hik : (mm_sta j = true ∧ decode x.1.2.1 pc = .ok (.invokestatic k, 3) ∧ (Cond.methodLink (mm_cn x.2.1.1) k (mm_x j).1.1 ∈ mm_tb ∨ ((mm_hh j).isEmpty = true ∧ va_Nw (.methodLinkNest (mm_cn x.2.1.1) k (mm_x j).1.1 "PromisedStock") s))) ∨ (mm_sta j = false ∧ mm_ctr j = false ∧ decode x.1.2.1 pc = .ok (.invokevirtual k, 3) ∧ Cond.methodLink (mm_cn x.2.1.1) k (mm_x j).1.1 ∈ mm_tb)
      ∨ (mm_sta j = false ∧ mm_ctr j = true ∧ (mm_x j).2.1.2.2 = 0 ∧ decode x.1.2.1 pc = .ok (.invokespecial k, 3) ∧ (Cond.methodLink (mm_cn x.2.1.1) k (mm_x j).1.1 ∈ mm_tb ∨ va_Nw (.methodLinkNest (mm_cn x.2.1.1) k (mm_x j).1.1 "PromisedStock") s))) :
    vx_Run p l e R s m args below meth c H locs cells slots (h'.2.2.1 - h.2.2.1) (h'.2.2.2 - h.2.2.2) (F0 m pc ls st) rest (mm_Qr D cs h o' h' H.size as.toArray) (mm_Qx D cs h o' h' H.size) (mm_A h.1 H.size) := by
  obtain ⟨hm, hrok, dd, hdd, hM⟩ := HC j as h h' o' hj hj2 hcl
  have hM := hM H.size
  have hpre := mm_pre (as := as) C hI
  obtain ⟨f1, f2, f3, f4, f5, f6, f7, f8, f9, f10, f11, f12, f13⟩ := mm_kf hj hj2
  obtain ⟨hx, hb, hml, hown, hts, -, ho, hK, hA, hR, -⟩ := C
  have hrm := mm_room2 hR hm hm2 hI
  obtain ⟨As, e1, e2, e3⟩ := mm_pop_of _ _ _ _ _ hpop
  rw [List.append_nil] at e1
  subst e1
  have hcw : ∀ w ∈ mm_ws j, w ∈ mm_tb := by
    intro w hw
    rcases List.mem_cons.mp hw with rfl | hw
    · cases hz : (mm_hh j).isEmpty with
      | true => exact (f3 hz).1
      | false => exact (f4 hz).1
    · exact hw
  have hG : GoodIn mm_tb (mm_ws j) := fun w hw => mm_tb_good w (hcw w hw)
  have hpay := pay_in hts hG
  have hroom : (mm_rm dd h h').frames + 1 ≤ R.frames ∧ 8 + ((mm_x j).1.2.2.1 + 11) + (mm_rm dd h h').locals ≤ R.locals := ⟨by show dd + 12 + 1 ≤ R.frames; omega, by show 8 + ((mm_x j).1.2.2.1 + 11) + (60 * dd + 200) ≤ R.locals; omega⟩
  rcases hik with ⟨i1, i2, i3⟩ | ⟨i1, i2, i3, i4⟩ | ⟨i1, i2, i3, i4, i5⟩
  · obtain ⟨q1, q2⟩ := f1 i1
    have hlen : ∀ sig, parseMethodDescriptor (mm_x j).1.1.desc = some sig → as.length = sig.parameters.length := fun sig hs => by
      rw [hs] at q2
      rw [e3]
      exact (Option.some.inj q2).symm
    cases hz : (mm_hh j).isEmpty with
    | true =>
      have hc := (f3 hz).1
      have hws : mm_ws j = Cond.code (mm_x j).1.1 (mm_x j).1.2.1 (mm_x j).1.2.2.1 (mm_x j).1.2.2.2 :: mm_tb := by unfold mm_ws; rw [hz]; rfl
      rcases i3 with i3 | ⟨-, i3⟩
      · exact vx_runS (Ts := mm_tb) (n := as.length) ⟨hx, hb, hml, hown, hts⟩ hM ⟨⟨rfl, rfl, hroom.1, hroom.2, hpay, by rw [hws]; exact List.mem_cons_self, hts _ hc, hts _ f10, f6, hlen, hts _ i3⟩, hts _ q1⟩ ⟨mm_blind, hpre⟩ rfl rfl hL.1 e2 (mm_lw8 hw) i2 hrm
      · exact vx_runSN (Ts := mm_tb) (n := as.length) ⟨hx, hb, hml, hown, hts⟩ hM ⟨⟨⟨rfl, rfl, hroom.1, hroom.2, hpay, by rw [hws]; exact List.mem_cons_self⟩, hts _ hc, hts _ f10, f6, hlen, va_Nw.use rfl i3⟩, hts _ q1, trivial⟩ ⟨mm_blind, hpre⟩ rfl rfl hL.1 e2 (mm_lw8 hw) i2 hrm
    | false =>
      have hc := (f4 hz).1
      have hws : mm_ws j = Cond.codeWith (mm_x j).1.1 (mm_x j).1.2.1 (mm_x j).1.2.2.1 (mm_x j).1.2.2.2 (mm_hh j) :: mm_tb := by unfold mm_ws; rw [hz]; rfl
      have i3 := i3.resolve_right (fun z => by rw [z.1] at hz; cases hz)
      exact vx_runSX (Ts := mm_tb) (n := as.length) (hh := mm_hh j) ⟨hx, hb, hml, hown, hts⟩ hM ⟨⟨rfl, rfl, hroom.1, hroom.2, hpay, by rw [hws]; exact List.mem_cons_self⟩, hts _ hc, hts _ f10, f6, hlen, hts _ i3, hts _ q1⟩ ⟨mm_blind, hpre⟩ rfl rfl hL.1 e2 (mm_lw8 hw) i2 hrm
  · obtain ⟨q1, q2⟩ := f2 i1
    have hz : (mm_hh j).isEmpty = true := by
      cases hz : (mm_hh j).isEmpty with
      | true => rfl
      | false => rw [(f4 hz).2] at i1; cases i1
    have hc := (f3 hz).1
    have hws : mm_ws j = Cond.code (mm_x j).1.1 (mm_x j).1.2.1 (mm_x j).1.2.2.1 (mm_x j).1.2.2.2 :: mm_tb := by unfold mm_ws; rw [hz]; rfl
    obtain ⟨b, As, ci, fs, rfl, hcell, hci⟩ := mm_rok_of i1 hrok
    obtain ⟨Ls, k0, -, hP, -, -, hk⟩ := mm_cell hI hcell
    have hci10 : ci < 10 := by
      obtain ⟨r, hr, -⟩ := hP k0 _ hk
      exact (List.getElem?_eq_some_iff.mp hr).1
    have hrecv := va_recv hK hP (mm_vc_at hci10) hk
    have hcn : (mm_vcn ci).1 = (mm_x j).1.1.cls := by rw [← (mm_ly_at hci10).2.2.2.2, hci]; exact f8
    rw [hcn] at hrecv
    have hlen : ∀ sig, parseMethodDescriptor (mm_x j).1.1.desc = some sig → As.length = sig.parameters.length := fun sig hs => by
      rw [hs] at q2
      have q3 : sig.parameters.length + 1 = (mm_x j).2.1.2.1 := Option.some.inj q2
      rw [List.length_cons] at e3
      omega
    exact vx_runV (Ts := mm_tb) (n := As.length) (C := (mm_x j).1.1.cls) (As := As) (b := b) ⟨hx, hb, hml, hown, hts⟩ hM ⟨⟨rfl, rfl, hroom.1, hroom.2, hpay, by rw [hws]; exact List.mem_cons_self, hts _ hc, hts _ f10, f6, hlen, hts _ i4⟩, hts _ q1, hts _ (f13 i1 i2)⟩ ⟨mm_blind, hrecv, hpre⟩ rfl rfl hL.1 (by rw [show (F0 m pc ls st).stack = st from rfl, e2]; simp) (mm_lw8 hw) i3 hrm
  · obtain ⟨q1, q2⟩ := f2 i1
    have hz : (mm_hh j).isEmpty = true := by
      cases hz : (mm_hh j).isEmpty with
      | true => rfl
      | false => rw [(f4 hz).2] at i1; cases i1
    have hc := (f3 hz).1
    rw [i3, if_pos rfl] at f11
    rw [f11] at hc
    have hws : mm_ws j = Cond.code (mm_x j).1.1 (mm_x j).1.2.1 (mm_x j).1.2.2.1 none :: mm_tb := by unfold mm_ws; rw [hz, f11]; rfl
    obtain ⟨b, As, ci, fs, rfl, hcell, hci⟩ := mm_rok_of i1 hrok
    have hlen : ∀ sig, parseMethodDescriptor (mm_x j).1.1.desc = some sig → As.length = sig.parameters.length := fun sig hs => by
      rw [hs] at q2
      have q3 : sig.parameters.length + 1 = (mm_x j).2.1.2.1 := Option.some.inj q2
      rw [List.length_cons] at e3
      omega
    rcases i5 with i5 | i5
    · exact vx_runI (Ts := mm_tb) (n := As.length) (As := As) (b := b) ⟨hx, hb, hml, hown, hts⟩ hM ⟨⟨rfl, rfl, hroom.1, hroom.2, hpay, by rw [hws]; exact List.mem_cons_self, hts _ hc, hts _ f10, f6, hlen, hts _ i5⟩, f12 i2, hts _ q1⟩ ⟨mm_blind, hpre⟩ rfl rfl hL.1 (by rw [show (F0 m pc ls st).stack = st from rfl, e2]; simp) (mm_lw8 hw) i4 hrm
    · exact vx_runIN (Ts := mm_tb) (n := As.length) (As := As) (b := b) ⟨hx, hb, hml, hown, hts⟩ hM ⟨⟨⟨rfl, rfl, hroom.1, hroom.2, hpay, by rw [hws]; exact List.mem_cons_self⟩, hts _ hc, hts _ f10, f6, hlen, va_Nw.use rfl i5⟩, f12 i2, hts _ q1⟩ ⟨mm_blind, hpre⟩ rfl rfl hL.1 (by rw [show (F0 m pc ls st).stack = st from rfl, e2]; simp) (mm_lw8 hw) i4 hrm
end MMI
