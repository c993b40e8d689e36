/-! SOUNDNESS, sixth part: what is made; arraycopy; a constructor's Object.<init> -/
theorem mm_wt_eq : ∀ r : List Value, mm_wt r = (r.map fun v => v.category).sum
  | [] => rfl
  | v :: r => by
    have h := mm_wt_eq r
    cases v <;> simp [mm_wt, Value.category, h]
/-- no method that is called so: the law itself, and the machine's own max and min -/
def mm_bad (j : Nat) : Bool := Nat.beq j 282 || (Nat.beq j 284 || Nat.beq j 285)
theorem mm_ml_ok : (List.range 14).all (fun own => (mm_ml.getD own []).all (fun q => (bif Nat.beq q.2.2.2 1 then mm_has (2, own, q.1, q.2.1) && Nat.ble (q.2.1 + 1) 287 else mm_has (1, own, q.1, q.2.1)) && (Nat.ble 1000 q.2.1 || (Nat.ble (q.2.1 + 1) 287 && !(mm_bad q.2.1))))) = true := by decide +kernel
theorem mm_ml_at {own k : Nat} {q : Nat × Nat × Nat × Nat} (ho : own < 14) (h : mm_fd mm_ml own k = some q) : (q.2.2.2 ≠ 1 → Cond.methodLink (mm_cn own) k (mm_yn q.2.1) ∈ mm_tb) ∧ (q.2.2.2 = 1 → Cond.methodLinkNest (mm_cn own) k (mm_yn q.2.1) "PromisedStock" ∈ tables_1 ∧ q.2.1 < 287) ∧ (q.2.1 < 1000 → q.2.1 < 287 ∧ mm_bad q.2.1 = false) := by
  obtain ⟨h1, h2⟩ := mm_fd_of h
  have h3 := List.all_eq_true.mp (List.all_eq_true.mp mm_ml_ok own (List.mem_range.mpr ho)) q h1
  rw [Bool.and_eq_true] at h3
  obtain ⟨a, b⟩ := h3
  refine ⟨fun hn => ?_, fun hn => ?_, fun hn => ?_⟩
  · have hf1 : Nat.beq q.2.2.2 1 = false := by
      cases hz : Nat.beq q.2.2.2 1 with
      | true => exact absurd (Nat.eq_of_beq_eq_true hz) hn
      | false => rfl
    rw [hf1, cond_false] at a
    have hw : Cond.methodLink (mm_cn own) q.1 (mm_yn q.2.1) ∈ mm_tb := mm_tb_cl a (show ¬ (1 : Nat) = 0 by decide) rfl
    rw [h2] at hw
    exact hw
  · have ht1 : Nat.beq q.2.2.2 1 = true := by rw [hn]; rfl
    rw [ht1, cond_true, Bool.and_eq_true] at a
    have hw : Cond.methodLinkNest (mm_cn own) q.1 (mm_yn q.2.1) "PromisedStock" ∈ tables_1 := mm_ca_mem (mm_has_mem a.1) (show ¬ (2 : Nat) = 0 by decide)
    rw [h2] at hw
    exact ⟨hw, Nat.le_of_ble_eq_true a.2⟩
  · rw [Bool.or_eq_true] at b
    rcases b with b | b
    · exact absurd (Nat.le_of_ble_eq_true b) (by omega)
    · rw [Bool.and_eq_true] at b
      refine ⟨Nat.le_of_ble_eq_true b.1, ?_⟩
      have b2 := b.2
      rw [Bool.not_eq_true'] at b2
      exact b2
section MMF
variable {p : Program} {l : Launch} {e : Env} {R : Room} {s : State} {m : MethodId} {args : Array Value} {below : List Frame} {meth : Method} {c : Code} {D : va_G} {cs : ClassId × ClassId × ClassId} {A : Nat → Prop} {h0 hf h : mm_H} {Q : State → Prop} {o : mm_O} {E : mm_E} {cl : mm_F} {x : mm_I} {H H1 : Heap} {locs locs1 : List Loc} {cells slots nL pc : Nat} {L : mm_L} {st : List Value} {ls : Array Slot} {g : JFrame} {go : mm_K} {len : Nat}
/-- behind a new cell -/
theorem mm_alW {n sl : Nat} {c1 : mm_C} (gg : mm_G p l e R s m args below meth c D cs A h0 hf Q nL pc L st (va_up h.1 n (some c1), (some (n + 1), (h.2.2.1 + 1, h.2.2.2 + sl)))) (hL : mm_lr ls nL L) (hI : mm_Iv s D cs A h0 h H locs cells slots) (hA : ∀ q, s.heap.size ≤ q → A q) (hn : h.2.1 = some n)
    (h1 : va_at D mm_vc (n, mm_toE cs c1) H1) (hz : H1.size = n + 1) (ho : ∀ q, q < n → H1[q]? = H[q]?) : W p l e R s m args below meth c H1 locs (cells + 1) (slots + sl) Q (F0 m pc ls st) := by
  obtain ⟨⟨Ls, hLs, hP, hD⟩, hS, hN, hcc, hss⟩ := hI
  obtain ⟨e1, e2, e3⟩ := hN n hn
  have hnL : n ∉ Ls := va_pl_fresh hP (by omega)
  have hP' : va_P D mm_vc (va_pl Ls (mm_f cs h.1)) H := hP
  have hD' : va_D A (va_pl Ls (mm_f cs h.1)) := hD
  have hk : ∀ (k : Nat) (z : Nat × va_E), (va_pl Ls (mm_f cs h.1))[k]? = some z → H1[z.1]? = H[z.1]? := fun k z hz2 => ho z.1 (by have := (hP' k z hz2).lt; omega)
  have hP1 : va_P D mm_vc (va_pl Ls (mm_f cs h.1) ++ [(n, mm_toE cs c1)]) H1 := (hP'.kept hk).app (fun k z hz2 => by
    have hk0 : k < 1 := (List.getElem?_eq_some_iff.mp hz2).1
    rw [show k = 0 by omega] at hz2
    cases hz2
    exact h1)
  have hD1 : va_D A (va_pl Ls (mm_f cs h.1) ++ [(n, mm_toE cs c1)]) := hD'.push hP' e1.symm (hA _ (by have := hS.1; omega))
  rw [va_pl_push hnL, mm_f_up] at hP1 hD1
  refine gg.2 H1 locs (cells + 1) (slots + sl) ls ⟨⟨Ls ++ [n], fun b => ?_, hP1, hD1⟩, ⟨by have := hS.1; omega, fun q q1 q2 => (ho q (by have := hS.1; omega)).trans (hS.2.1 q q1 q2), hS.2.2⟩, fun n' hn' => ?_, ?_, ?_⟩ hL
  · by_cases hb : b = n
    · subst hb; simp [va_up]
    · simp only [va_up, hb, if_false, List.mem_append, List.mem_singleton, or_false]
      exact hLs b
  · cases hn'
    exact ⟨hz, by show n + 1 + h0.2.2.1 = s.heap.size + (h.2.2.1 + 1); omega, e3⟩
  · show h0.2.2.1 + (cells + 1) = h.2.2.1 + 1; omega
  · show h0.2.2.2 + (slots + sl) = h.2.2.2 + sl; omega
theorem mm_room (C : hf.2.2.1 ≤ h0.2.2.1 + R.cells ∧ hf.2.2.2 ≤ h0.2.2.2 + R.slots) {sl : Nat} (g1 : h.2.2.1 + 1 ≤ hf.2.2.1 ∧ h.2.2.2 + sl ≤ hf.2.2.2) (hI : mm_Iv s D cs A h0 h H locs cells slots) : cells + 1 ≤ R.cells ∧ slots + sl ≤ R.slots := by
  obtain ⟨-, -, -, a, b⟩ := hI
  omega
theorem mm_q_newI (C : mm_cx p R s m args meth c D cs A h0 hf E x) (hgo : ∀ t L' st' h', go t L' st' h' = some (o, hf) → mm_G p l e R s m args below meth c D cs A h0 hf Q x.1.2.2.1 t L' st' h')
    (hd : decode x.1.2.1 pc = .ok (.newarray .int, len)) (hl : mm_lk (.newarray .int) = len) (hr : mm_stp E cl x go (.newarray .int) len pc L st h = some (o, hf)) : mm_G p l e R s m args below meth c D cs A h0 hf Q x.1.2.2.1 pc L st h := by
  have hl : 2 = len := hl
  subst hl
  obtain ⟨hx, hb, -, hown, hts, -, ho, hK, hA, hR, -⟩ := C
  obtain ⟨v, r, rfl, hr1⟩ := mm_i1_of (show mm_i1 st (fun n r => mm_nn n (fun k => mm_al h (.inr (.inl (k, fun _ => 0))) k (fun q h' => go (pc + 2) L (.ref q :: r) h'))) = some (o, hf) from hr)
  rcases mm_br_of (show mm_br (v < 0 ∨ 100000 < v.toNatClampNeg) none _ = _ from hr1) with ⟨-, hr2⟩ | ⟨hv, hr2⟩
  · cases hr2
  obtain ⟨n, hn, hr3⟩ := mm_al_of hr2
  have g := hgo _ _ _ _ hr3
  have g1 : h.2.2.1 + 1 ≤ hf.2.2.1 ∧ h.2.2.2 + v.toNatClampNeg ≤ hf.2.2.2 := g.1
  refine ⟨⟨by omega, by omega⟩, fun H locs cells slots ls hI hL => ?_⟩
  obtain ⟨r1, r2⟩ := mm_room hR g1 hI
  have hw : Cond.arrayClass .int ∈ mm_tb := mm_tb_of (List.mem_of_getElem? (i := 64) (by decide +kernel)) rfl
  refine va_newaK hx hb (atype := .int) (hts _ hw) rfl hd rfl (fun z => hv (Or.inl z)) rfl (Nat.le_trans (Nat.mul_le_mul_right 4 (Nat.not_lt.mp fun z => hv (Or.inr z))) (Nat.le_of_ble_eq_true rfl)) r1 r2 (hI.2.2.1 n hn).1 (fun H1 cA e1 z1 o1 hAr hNm => ?_)
  have hc : cA = cs.1 := Option.some.inj (hNm.symm.trans (hK.2 0 _ rfl).2)
  subst hc
  exact mm_alW g hL hI hA hn e1 z1 o1
theorem mm_q_newJ (C : mm_cx p R s m args meth c D cs A h0 hf E x) (hgo : ∀ t L' st' h', go t L' st' h' = some (o, hf) → mm_G p l e R s m args below meth c D cs A h0 hf Q x.1.2.2.1 t L' st' h')
    (hd : decode x.1.2.1 pc = .ok (.newarray .long, len)) (hl : mm_lk (.newarray .long) = len) (hr : mm_stp E cl x go (.newarray .long) len pc L st h = some (o, hf)) : mm_G p l e R s m args below meth c D cs A h0 hf Q x.1.2.2.1 pc L st h := by
  have hl : 2 = len := hl
  subst hl
  obtain ⟨hx, hb, -, hown, hts, -, ho, hK, hA, hR, -⟩ := C
  obtain ⟨v, r, rfl, hr1⟩ := mm_i1_of (show mm_i1 st (fun n r => mm_nn n (fun k => mm_al h (.inr (.inr (.inl (k, fun _ => 0)))) k (fun q h' => go (pc + 2) L (.ref q :: r) h'))) = some (o, hf) from hr)
  rcases mm_br_of (show mm_br (v < 0 ∨ 100000 < v.toNatClampNeg) none _ = _ from hr1) with ⟨-, hr2⟩ | ⟨hv, hr2⟩
  · cases hr2
  obtain ⟨n, hn, hr3⟩ := mm_al_of hr2
  have g := hgo _ _ _ _ hr3
  have g1 : h.2.2.1 + 1 ≤ hf.2.2.1 ∧ h.2.2.2 + v.toNatClampNeg ≤ hf.2.2.2 := g.1
  refine ⟨⟨by omega, by omega⟩, fun H locs cells slots ls hI hL => ?_⟩
  obtain ⟨r1, r2⟩ := mm_room hR g1 hI
  have hw : Cond.arrayClass .long ∈ mm_tb := mm_tb_of (List.mem_of_getElem? (i := 187) (by decide +kernel)) rfl
  refine va_newaK hx hb (atype := .long) (hts _ hw) rfl hd rfl (fun z => hv (Or.inl z)) rfl (Nat.le_trans (Nat.mul_le_mul_right 8 (Nat.not_lt.mp fun z => hv (Or.inr z))) (Nat.le_of_ble_eq_true rfl)) r1 r2 (hI.2.2.1 n hn).1 (fun H1 cA e1 z1 o1 hAr hNm => ?_)
  have hc : cA = cs.2.1 := Option.some.inj (hNm.symm.trans (hK.2 1 _ rfl).2)
  subst hc
  exact mm_alW g hL hI hA hn e1 z1 o1
theorem mm_q_anewarray {k : Nat} (C : mm_cx p R s m args meth c D cs A h0 hf E x) (hgo : ∀ t L' st' h', go t L' st' h' = some (o, hf) → mm_G p l e R s m args below meth c D cs A h0 hf Q x.1.2.2.1 t L' st' h')
    (hd : decode x.1.2.1 pc = .ok (.anewarray k, len)) (hl : mm_lk (.anewarray k) = len) (hr : mm_stp E cl x go (.anewarray k) len pc L st h = some (o, hf)) : mm_G p l e R s m args below meth c D cs A h0 hf Q x.1.2.2.1 pc L st h := by
  have hl : 3 = len := hl
  subst hl
  obtain ⟨hx, hb, -, hown, hts, -, ho, hK, hA, hR, -, -, -, -, -, hAO, -⟩ := C
  obtain ⟨hk, hr0⟩ := mm_bif_of (show (bif Nat.beq x.2.1.1 1 && Nat.beq k 9 then mm_i1 st (fun n r => mm_nn n (fun k => mm_al h (.inr (.inr (.inr (k, fun _ => none)))) k (fun q h' => go (pc + 3) L (.ref q :: r) h'))) else none) = some (o, hf) from hr)
  rw [Bool.and_eq_true] at hk
  have k1 := Nat.eq_of_beq_eq_true hk.1
  have k2 := Nat.eq_of_beq_eq_true hk.2
  subst k2
  rw [k1] at hown
  obtain ⟨v, r, rfl, hr1⟩ := mm_i1_of hr0
  rcases mm_br_of (show mm_br (v < 0 ∨ 100000 < v.toNatClampNeg) none _ = _ from hr1) with ⟨-, hr2⟩ | ⟨hv, hr2⟩
  · cases hr2
  obtain ⟨n, hn, hr3⟩ := mm_al_of hr2
  have g := hgo _ _ _ _ hr3
  have g1 : h.2.2.1 + 1 ≤ hf.2.2.1 ∧ h.2.2.2 + v.toNatClampNeg ≤ hf.2.2.2 := g.1
  refine ⟨⟨by omega, by omega⟩, fun H locs cells slots ls hI hL => ?_⟩
  obtain ⟨r1, r2⟩ := mm_room hR g1 hI
  have hw : Cond.classLink "PromisedStock$Best" 9 "PromisedStock$Row" ∈ mm_tb := mm_tb_cl (q := (12, 1, 9, 5)) (by decide +kernel) (show ¬ (12 : Nat) = 0 by decide) rfl
  refine W.anew hx hb hown (hts _ hw) (va_AO.use hAO) rfl hd rfl (fun z => hv (Or.inl z)) (Nat.le_trans (Nat.mul_le_mul_right 4 (Nat.not_lt.mp fun z => hv (Or.inr z))) (Nat.le_of_ble_eq_true rfl)) r1 r2 (fun cA kA comp f1 f2 f3 f4 => ?_)
  have hsz := (hI.2.2.1 n hn).1
  have hc : cA = cs.2.2 := by
    obtain ⟨-, kA', comp', -, -, -, q4⟩ := hK.2 2 _ rfl
    exact Option.some.inj (f1.symm.trans q4)
  subst hc
  rw [hsz]
  refine mm_alW g hL hI hA hn ?_ (by rw [Array.size_push, hsz]) (fun q hq => by rw [Array.getElem?_push, if_neg (by omega)])
  show (H.push _)[n]? = some (vp_cell _ _)
  rw [vp_cell_q, ← hsz, Array.getElem?_push_size, ← arrV_new]
  rfl
theorem mm_q_newO {k : Nat} {q : Nat × Nat × Nat} (C : mm_cx p R s m args meth c D cs A h0 hf E x) (hgo : ∀ t L' st' h', go t L' st' h' = some (o, hf) → mm_G p l e R s m args below meth c D cs A h0 hf Q x.1.2.2.1 t L' st' h')
    (hd : decode x.1.2.1 pc = .ok (.new k, 3)) (hq : mm_fd mm_nw x.2.1.1 k = some q) (hr : mm_al h (.inl (q.2.1, mm_new.getD q.2.1 [])) (mm_new.getD q.2.1 []).length (fun a h' => go (pc + 3) L (.ref a :: st) h') = some (o, hf)) : mm_G p l e R s m args below meth c D cs A h0 hf Q x.1.2.2.1 pc L st h := by
  obtain ⟨hx, hb, -, hown, hts, -, ho, hK, hA, hR, -⟩ := C
  obtain ⟨q1, q2, q3⟩ := mm_nw_at ho hq
  obtain ⟨-, y1, y2, y3, y4⟩ := mm_ly_at q1
  obtain ⟨n, hn, hr3⟩ := mm_al_of hr
  have g := hgo _ _ _ _ hr3
  have g1 : h.2.2.1 + 1 ≤ hf.2.2.1 ∧ h.2.2.2 + (mm_new.getD q.2.1 []).length ≤ hf.2.2.2 := g.1
  refine ⟨⟨by omega, by omega⟩, fun H locs cells slots ls hI hL => ?_⟩
  obtain ⟨r1, r2⟩ := mm_room hR g1 hI
  have hKn := hK.1 q.2.1 _ (mm_vc_at q1)
  have w1 : Cond.instantiable (mm_vcn q.2.1).1 (mm_vcn q.2.1).2.2 ∈ mm_tb := mm_tb_cl y1 (show ¬ (10 : Nat) = 0 by decide) rfl
  have w2 : Cond.initialized (mm_cn q.2.1) ∈ mm_tb := mm_tb_cl y2 (show ¬ (9 : Nat) = 0 by decide) rfl
  rw [y4] at w2
  rw [y3] at r2
  have g := g
  rw [y3] at g
  refine W.newcK hx hb hown (hts _ q2) (hts _ w1) (hts _ w2) rfl hd r1 r2 hKn.2.1 (hI.2.2.1 n hn).1 (fun H1 kC hkC e1 z1 o1 => ?_)
  refine mm_alW (sl := (mm_vcn q.2.1).2.2) g hL hI hA hn ?_ z1 o1
  exact ⟨_, mm_vc_at q1, (u_born (mm_tn q.2.1) hts (mm_lays q1) hKn hkC e1 (mm_okT _ q1)).to q3⟩
end MMF
