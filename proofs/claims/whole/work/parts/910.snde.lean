/-! SOUNDNESS, fifth part: constants, switches, what is made, returns -/
theorem mm_ct_ok : (List.range 14).all (fun own => (mm_ct.getD own []).all (fun q => mm_has (13, own, q.1, 0))) = true := by decide +kernel
theorem mm_cj_ok : (List.range 14).all (fun own => (mm_cj.getD own []).all (fun q => mm_has (14, own, q.1, 0))) = true := by decide +kernel
theorem mm_sr_ok : (List.range 14).all (fun own => (mm_sr.getD own []).all (fun q => match mm_sc[q.2.1]? with
  | some z => Nat.beq z.1 own && Nat.beq z.2.1 q.1
  | none => false)) = true := by decide +kernel
theorem mm_nw_ok : (List.range 14).all (fun own => (mm_nw.getD own []).all (fun q => mm_has (12, own, q.1, q.2.1) && (Nat.ble (q.2.1 + 1) 10 && decide (∀ j, j < (mm_vcn q.2.1).2.2 → defaultValue (mm_tn q.2.1 j) = vp_V (mm_new.getD q.2.1 []) j)))) = true := by decide +kernel
theorem mm_ct_at {own k : Nat} {q : Nat × Int32 × Nat} (ho : own < 14) (h : mm_fd mm_ct own k = some q) : Cond.constant (mm_cn own) k q.2.1 ∈ mm_tb := by
  obtain ⟨h1, h2⟩ := mm_fd_of h
  have h3 := List.all_eq_true.mp (List.all_eq_true.mp mm_ct_ok own (List.mem_range.mpr ho)) q h1
  have hw : Cond.constant (mm_cn own) q.1 ((mm_fd mm_ct own q.1).elim 0 (fun z => z.2.1)) ∈ mm_tb := mm_tb_cl h3 (show ¬ (13 : Nat) = 0 by decide) rfl
  rw [h2, h] at hw
  exact hw
theorem mm_cj_at {own k : Nat} {q : Nat × Int64 × Nat} (ho : own < 14) (h : mm_fd mm_cj own k = some q) : Cond.constantLong (mm_cn own) k q.2.1 ∈ mm_tb := by
  obtain ⟨h1, h2⟩ := mm_fd_of h
  have h3 := List.all_eq_true.mp (List.all_eq_true.mp mm_cj_ok own (List.mem_range.mpr ho)) q h1
  have hw : Cond.constantLong (mm_cn own) q.1 ((mm_fd mm_cj own q.1).elim 0 (fun z => z.2.1)) ∈ mm_tb := mm_tb_cl h3 (show ¬ (14 : Nat) = 0 by decide) rfl
  rw [h2, h] at hw
  exact hw
theorem mm_sr_at {own k : Nat} {q : Nat × Nat × Nat} (ho : own < 14) (h : mm_fd mm_sr own k = some q) : ∃ z, mm_sc[q.2.1]? = some z ∧ z.1 = own ∧ z.2.1 = k := by
  obtain ⟨h1, h2⟩ := mm_fd_of h
  have h3 := List.all_eq_true.mp (List.all_eq_true.mp mm_sr_ok own (List.mem_range.mpr ho)) q h1
  split at h3
  · next z hz =>
    rw [Bool.and_eq_true] at h3
    exact ⟨z, hz, Nat.eq_of_beq_eq_true h3.1, (Nat.eq_of_beq_eq_true h3.2).trans h2⟩
  · cases h3
theorem mm_nw_at {own k : Nat} {q : Nat × Nat × Nat} (ho : own < 14) (h : mm_fd mm_nw own k = some q) : q.2.1 < 10 ∧ Cond.classLink (mm_cn own) k (mm_vcn q.2.1).1 ∈ mm_tb ∧ ∀ j, j < (mm_vcn q.2.1).2.2 → defaultValue (mm_tn q.2.1 j) = vp_V (mm_new.getD q.2.1 []) j := by
  obtain ⟨h1, h2⟩ := mm_fd_of h
  have h3 := List.all_eq_true.mp (List.all_eq_true.mp mm_nw_ok own (List.mem_range.mpr ho)) q h1
  simp only [Bool.and_eq_true, decide_eq_true_eq] at h3
  obtain ⟨a, b, d⟩ := h3
  have hb := Nat.le_of_ble_eq_true b
  have hw : Cond.classLink (mm_cn own) q.1 (mm_cn q.2.1) ∈ mm_tb := mm_tb_cl a (show ¬ (12 : Nat) = 0 by decide) rfl
  rw [h2, (mm_ly_at hb).2.2.2.2] at hw
  exact ⟨hb, hw, d⟩
theorem mm_sw_of {a : Int32} {df : Int} {κ : Int → mm_R} {z : mm_O × mm_H} : ∀ (offs : List Int) (lo : Int), mm_sw a df lo offs κ = some z → (∃ (i : Nat) (off : Int), offs[i]? = some off ∧ a = Int32.ofInt (lo + (i : Int)) ∧ κ off = some z) ∨ ((∀ i : Nat, i < offs.length → a ≠ Int32.ofInt (lo + (i : Int))) ∧ κ df = some z)
  | [], lo, h => Or.inr ⟨fun i hi => absurd hi (Nat.not_lt_zero i), h⟩
  | off :: r, lo, h => by
    rcases mm_br_of (show mm_br (a = Int32.ofInt lo) (κ off) (mm_sw a df (lo + 1) r κ) = some z from h) with ⟨ha, h⟩ | ⟨ha, h⟩
    · exact Or.inl ⟨0, off, rfl, by rw [ha]; simp, h⟩
    · rcases mm_sw_of r (lo + 1) h with ⟨i, off', h1, h2, h3⟩ | ⟨h1, h2⟩
      · exact Or.inl ⟨i + 1, off', h1, by rw [h2]; congr 1; push_cast; omega, h3⟩
      · refine Or.inr ⟨fun i hi => ?_, h2⟩
        cases i with
        | zero => simpa using ha
        | succ i =>
          have := h1 i (by simpa using hi)
          intro e
          exact this (by rw [e]; congr 1; push_cast; omega)
theorem mm_lw_of {a : Int32} {df : Int} {κ : Int → mm_R} {z : mm_O × mm_H} : ∀ (ps : List (Int × Int)), (∀ q ∈ ps, -2147483648 ≤ q.1 ∧ q.1 < 2147483648) → mm_lw a df ps κ = some z → κ (Op.lookupswitch.offset ps df a.toInt) = some z
  | [], _, h => h
  | q :: r, hq, h => by
    have hq0 := hq q List.mem_cons_self
    have e0 : (Int32.ofInt q.1).toInt = q.1 := Int32.toInt_ofInt_of_le (by omega) (by omega)
    show κ (if q.1 = a.toInt then q.2 else Op.lookupswitch.offset r df a.toInt) = some z
    rcases mm_br_of (show mm_br (a = Int32.ofInt q.1) (κ q.2) (mm_lw a df r κ) = some z from h) with ⟨ha, h⟩ | ⟨ha, h⟩
    · rw [if_pos (by rw [ha, e0])]; exact h
    · rw [if_neg (fun e => ha (by rw [e, Int32.ofInt_toInt]))]
      exact mm_lw_of r (fun q' h' => hq q' (List.mem_cons_of_mem _ h')) h
section MME
variable {p : Program} {l : Launch} {e : Env} {R : Room} {s : State} {m : MethodId} {args : Array Value} {below : List Frame} {meth : Method} {c : Code} {D : va_G} {cs : ClassId × ClassId × ClassId} {A : Nat → Prop} {h0 hf h : mm_H} {Q : State → Prop} {o : mm_O} {E : mm_E} {cl : mm_F} {x : mm_I} {H H1 : Heap} {locs locs1 : List Loc} {cells slots nL pc : Nat} {L : mm_L} {st : List Value} {ls : Array Slot} {g : JFrame} {go : mm_K} {len : Nat}
theorem mm_ldcSW {cc : ByteArray} {rest : List Value} (hexec : p.tables.exec = Jvm.exec) (hb : c.code = cc) {own tx : String} {index q : Nat} (hown : s.vm.findClass own = some m.cls) (hZ : vk_R own index tx q s) (hdg : decode cc pc = .ok (.ldc_w index, 3))
    (k : W p l e R s m args below meth c H locs cells slots Q (F0 m (pc + 3) ls (.ref q :: rest))) : W p l e R s m args below meth c H locs cells slots Q (F0 m pc ls rest) := by
  intro T hT X
  obtain ⟨t, a1, b1⟩ := k T hT X
  exact ⟨t, X.ldcStringW hexec hown (text := tx) (a := q) hZ.1 hZ.2 (g := F0 m pc ls rest) rfl (by rw [hb]; exact hdg) t a1, b1⟩
theorem mm_q_ldc {k : Nat} (C : mm_cx p R s m args meth c D cs A h0 hf E x) (hgo : ∀ t L' st' h', go t L' st' h' = some (o, hf) → mm_G p l e R s m args below meth c D cs A h0 hf Q x.1.2.2.1 t L' st' h')
    (hd : decode x.1.2.1 pc = .ok (.ldc k, len)) (hl : mm_lk (.ldc k) = len) (hr : mm_stp E cl x go (.ldc k) len pc L st h = some (o, hf)) : mm_G p l e R s m args below meth c D cs A h0 hf Q x.1.2.2.1 pc L st h := by
  have hl : 2 = len := hl
  subst hl
  obtain ⟨hx, hb, -, hown, hts, -, ho, hK, -, -, -, -, -, -, hsc, -⟩ := C
  rcases mm_op_of (show mm_op (mm_fd mm_ct x.2.1.1 k) (fun q => go (pc + 2) L (.int q.2.1 :: st) h) (mm_op (mm_fd mm_sr x.2.1.1 k) (fun q => go (pc + 2) L (.ref (E.2.2.1 q.2.1) :: st) h) none) = some (o, hf) from hr) with ⟨q, hq, hr⟩ | ⟨-, hr⟩
  · have g := hgo _ _ _ _ hr
    exact ⟨g.1, fun H locs cells slots ls hI hL => lv_ldc hx hb hown (hts _ (mm_ct_at ho hq)) hd (g.2 H locs cells slots ls hI hL)⟩
  · rcases mm_op_of hr with ⟨q, hq, hr⟩ | ⟨-, hr⟩
    · have g := hgo _ _ _ _ hr
      obtain ⟨z, hz, rfl', z2⟩ := mm_sr_at ho hq
      have hR := hsc _ z hz
      rw [rfl', z2] at hR
      exact ⟨g.1, fun H locs cells slots ls hI hL => va_ldcS hx hb hown hR hd (g.2 H locs cells slots ls hI hL)⟩
    · cases hr
theorem mm_q_ldc_w {k : Nat} (C : mm_cx p R s m args meth c D cs A h0 hf E x) (hgo : ∀ t L' st' h', go t L' st' h' = some (o, hf) → mm_G p l e R s m args below meth c D cs A h0 hf Q x.1.2.2.1 t L' st' h')
    (hd : decode x.1.2.1 pc = .ok (.ldc_w k, len)) (hl : mm_lk (.ldc_w k) = len) (hr : mm_stp E cl x go (.ldc_w k) len pc L st h = some (o, hf)) : mm_G p l e R s m args below meth c D cs A h0 hf Q x.1.2.2.1 pc L st h := by
  have hl : 3 = len := hl
  subst hl
  obtain ⟨hx, hb, -, hown, hts, -, ho, hK, -, -, -, -, -, -, hsc, -⟩ := C
  rcases mm_op_of (show mm_op (mm_fd mm_ct x.2.1.1 k) (fun q => go (pc + 3) L (.int q.2.1 :: st) h) (mm_op (mm_fd mm_sr x.2.1.1 k) (fun q => go (pc + 3) L (.ref (E.2.2.1 q.2.1) :: st) h) none) = some (o, hf) from hr) with ⟨q, hq, hr⟩ | ⟨-, hr⟩
  · have g := hgo _ _ _ _ hr
    exact ⟨g.1, fun H locs cells slots ls hI hL => lv_ldcw hx hb hown (hts _ (mm_ct_at ho hq)) hd (g.2 H locs cells slots ls hI hL)⟩
  · rcases mm_op_of hr with ⟨q, hq, hr⟩ | ⟨-, hr⟩
    · have g := hgo _ _ _ _ hr
      obtain ⟨z, hz, rfl', z2⟩ := mm_sr_at ho hq
      have hR := hsc _ z hz
      rw [rfl', z2] at hR
      exact ⟨g.1, fun H locs cells slots ls hI hL => mm_ldcSW hx hb hown hR hd (g.2 H locs cells slots ls hI hL)⟩
    · cases hr
theorem mm_q_ldc2_w {k : Nat} (C : mm_cx p R s m args meth c D cs A h0 hf E x) (hgo : ∀ t L' st' h', go t L' st' h' = some (o, hf) → mm_G p l e R s m args below meth c D cs A h0 hf Q x.1.2.2.1 t L' st' h')
    (hd : decode x.1.2.1 pc = .ok (.ldc2_w k, len)) (hl : mm_lk (.ldc2_w k) = len) (hr : mm_stp E cl x go (.ldc2_w k) len pc L st h = some (o, hf)) : mm_G p l e R s m args below meth c D cs A h0 hf Q x.1.2.2.1 pc L st h := by
  have hl : 3 = len := hl
  subst hl
  obtain ⟨hx, hb, -, hown, hts, -, ho, hK, -⟩ := C
  rcases mm_op_of (show mm_op (mm_fd mm_cj x.2.1.1 k) (fun q => go (pc + 3) L (.long q.2.1 :: st) h) none = some (o, hf) from hr) with ⟨q, hq, hr⟩ | ⟨-, hr⟩
  · have g := hgo _ _ _ _ hr
    exact ⟨g.1, fun H locs cells slots ls hI hL => lv_ldc2 hx hb hown (hts _ (mm_cj_at ho hq)) hd (g.2 H locs cells slots ls hI hL)⟩
  · cases hr
theorem mm_q_getstatic {k : Nat} (C : mm_cx p R s m args meth c D cs A h0 hf E x) (hgo : ∀ t L' st' h', go t L' st' h' = some (o, hf) → mm_G p l e R s m args below meth c D cs A h0 hf Q x.1.2.2.1 t L' st' h')
    (hd : decode x.1.2.1 pc = .ok (.getstatic k, len)) (hl : mm_lk (.getstatic k) = len) (hr : mm_stp E cl x go (.getstatic k) len pc L st h = some (o, hf)) : mm_G p l e R s m args below meth c D cs A h0 hf Q x.1.2.2.1 pc L st h := by
  have hl : 3 = len := hl
  subst hl
  obtain ⟨hx, hb, -, hown, hts, -, ho, hK, -, -, -, -, -, hZ, -⟩ := C
  obtain ⟨hk, hr2⟩ := mm_bif_of (show (bif Nat.beq x.2.1.1 8 && Nat.beq k 323 then go (pc + 3) L (.ref E.2.1 :: st) h else none) = some (o, hf) from hr)
  rw [Bool.and_eq_true] at hk
  have k1 := Nat.eq_of_beq_eq_true hk.1
  have k2 := Nat.eq_of_beq_eq_true hk.2
  subst k2
  have g := hgo _ _ _ _ hr2
  have hw : Cond.fieldLink "PromisedStock" 323 "PromisedStock" "MOST" "[I" ∈ mm_tb := mm_tb_of (List.mem_of_getElem? (i := 352) (by decide +kernel)) rfl
  rw [k1] at hown
  exact ⟨g.1, fun H locs cells slots ls hI hL => va_gets hx hb hZ hI.2.1 hown (hts _ hw) (fun _ z => z) hd (g.2 H locs cells slots ls hI hL)⟩
theorem mm_q_tableswitch {df lo hi : Int} {offs : Array Int} (hx : p.tables.exec = Jvm.exec) (hb : c.code = x.1.2.1) (hgo : ∀ t L' st' h', go t L' st' h' = some (o, hf) → mm_G p l e R s m args below meth c D cs A h0 hf Q x.1.2.2.1 t L' st' h')
    (hd : decode x.1.2.1 pc = .ok (.tableswitch df lo hi offs, len)) (hr : mm_stp E cl x go (.tableswitch df lo hi offs) len pc L st h = some (o, hf)) : mm_G p l e R s m args below meth c D cs A h0 hf Q x.1.2.2.1 pc L st h := by
  obtain ⟨a, r, rfl, hr1⟩ := mm_i1_of (show mm_i1 st (fun a r => bif decide (-2147483648 ≤ lo ∧ lo + offs.toList.length = hi + 1 ∧ hi < 2147483648) then mm_sw a df lo offs.toList (fun off => mm_tg pc off (fun t => go t L r h)) else none) = some (o, hf) from hr)
  obtain ⟨hc, hr2⟩ := mm_bif_of hr1
  obtain ⟨c1, c2, c3⟩ := of_decide_eq_true hc
  rcases mm_sw_of _ _ hr2 with ⟨i, off, i1, i2, i3⟩ | ⟨i1, i2⟩
  · obtain ⟨t, ht, hr3⟩ := mm_tg_of i3
    have g := hgo _ _ _ _ hr3
    have hi' : i < offs.toList.length := (List.getElem?_eq_some_iff.mp i1).1
    have ea : a.toInt = lo + i := by rw [i2]; exact Int32.toInt_ofInt_of_le (by omega) (by omega)
    refine ⟨g.1, fun H locs cells slots ls hI hL => lv_tableIn hx hb hd (by omega) (by omega) ?_ ht (g.2 H locs cells slots ls hI hL)⟩
    rw [ea, show (lo + (i : Int) - lo).toNat = i by omega, ← Array.getElem?_toList]
    exact i1
  · obtain ⟨t, ht, hr3⟩ := mm_tg_of i2
    have g := hgo _ _ _ _ hr3
    refine ⟨g.1, fun H locs cells slots ls hI hL => lv_tableOut hx hb hd ?_ ht (g.2 H locs cells slots ls hI hL)⟩
    rcases Int.lt_or_le a.toInt lo with q | q
    · exact Or.inl q
    · rcases Int.lt_or_le hi a.toInt with q2 | q2
      · exact Or.inr q2
      · exact absurd (by rw [show lo + (((a.toInt - lo).toNat : Nat) : Int) = a.toInt by omega, Int32.ofInt_toInt]) (i1 (a.toInt - lo).toNat (by omega))
theorem mm_q_lookupswitch {df : Int} {ps : Array (Int × Int)} (hx : p.tables.exec = Jvm.exec) (hb : c.code = x.1.2.1) (hgo : ∀ t L' st' h', go t L' st' h' = some (o, hf) → mm_G p l e R s m args below meth c D cs A h0 hf Q x.1.2.2.1 t L' st' h')
    (hd : decode x.1.2.1 pc = .ok (.lookupswitch df ps, len)) (hr : mm_stp E cl x go (.lookupswitch df ps) len pc L st h = some (o, hf)) : mm_G p l e R s m args below meth c D cs A h0 hf Q x.1.2.2.1 pc L st h := by
  obtain ⟨a, r, rfl, hr1⟩ := mm_i1_of (show mm_i1 st (fun a r => bif (ps.toList.zip (ps.toList.drop 1)).all (fun (u, w) => decide (u.1 < w.1)) && ps.toList.all (fun q => decide (-2147483648 ≤ q.1 ∧ q.1 < 2147483648)) then mm_lw a df ps.toList (fun off => mm_tg pc off (fun t => go t L r h)) else none) = some (o, hf) from hr)
  obtain ⟨hc, hr2⟩ := mm_bif_of hr1
  rw [Bool.and_eq_true] at hc
  have hr3 := mm_lw_of _ (fun q hq => of_decide_eq_true (List.all_eq_true.mp hc.2 q hq)) hr2
  obtain ⟨t, ht, hr4⟩ := mm_tg_of hr3
  have g := hgo _ _ _ _ hr4
  exact ⟨g.1, fun H locs cells slots ls hI hL => lv_lookup hx hb hd hc.1 rfl ht (g.2 H locs cells slots ls hI hL)⟩
end MME
