/-! THE PURE CLAIM, whole -/
theorem ct_len (B : Nat) : (ct_all B).length = 124 := by
  have z := congrArg List.length (ct_same B)
  rw [List.length_map, List.length_map, List.length_range] at z
  exact z
theorem ct_ml (B p : Nat) : (ct_mod B p).length = 22 := rfl
theorem ct_psl (B : Nat) : (ct_ps B).length = 101 := by
  have z := ct_len B
  unfold ct_all at z
  rw [List.length_append, List.length_append, ct_ml, List.length_singleton] at z
  omega
theorem ct_get (B a : Nat) : (ct_all B)[a]? = pp_cell B ct_S a := by
  by_cases q : a < 124
  · have z := congrArg (fun l => l[a]?) (ct_same B)
    have z : ((ct_all B).map some)[a]? = ((List.range 124).map (pp_cell B ct_S))[a]? := z
    rw [List.getElem?_map, List.getElem?_map, List.getElem?_range q] at z
    have z : ((ct_all B)[a]?).map some = some (pp_cell B ct_S a) := z
    cases h : (ct_all B)[a]? with
    | none => rw [h] at z; cases z
    | some x =>
      rw [h] at z
      exact Option.some.inj z
  · rw [List.getElem?_eq_none (by rw [ct_len]; omega)]
    unfold pp_cell
    rw [aq_sh0 (by omega)]
theorem ct_hp (B : Nat) (c : Nat × Nat) : ct_h B (ct_all B) c = mm_hp B ct_S (some (B + 124), c) := by
  unfold ct_h mm_hp
  rw [ct_len]
  have e : (fun x => if x < B then none else (ct_all B)[x - B]?) = fun x => if x < B then none else pp_cell B ct_S (x - B) := by
    funext x
    rw [ct_get]
  rw [e]
theorem ct_I0 (a k : Nat) (h1 : ¬ (k = 11 ∧ (a = 3 ∨ a = 14 ∨ a = 25))) (h2 : ¬ ((k = 13 ∧ a = 0) ∨ (k = 34 ∧ a = 101))) : ct_S.I a k = 0 := by
  show (if k = 11 ∧ (a = 3 ∨ a = 14 ∨ a = 25) then (165 : Int) else if (k = 13 ∧ a = 0) ∨ (k = 34 ∧ a = 101) then -1 else 0) = 0
  rw [if_neg h1, if_neg h2]
theorem ct_A0 (a : Nat) (h : a ≠ 102) (i : Int) : ct_S.A a i = 0 := by
  show (if a = 102 then (fun i : Int => if i = 1 then (165 : Int) else 0) else fun _ => 0) i = 0
  rw [if_neg h]
theorem ct_A2 (i : Int) : ct_S.A 102 i = if i = 1 then 165 else 0 := rfl
theorem ct_iv : iv ct_S 0 := by
  have i3 : ct_S.I 3 10 = 0 := ct_I0 3 10 (by omega) (by omega)
  have i11 : ct_S.I 3 11 = 165 := rfl
  have i12 : ct_S.I 3 12 = 0 := ct_I0 3 12 (by omega) (by omega)
  have f0 : ct_S.A 102 0 = 0 := rfl
  have f1 : ct_S.A 102 1 = 165 := rfl
  have f2 : ct_S.A 102 2 = 0 := rfl
  have tz : ∀ a, a ≠ 102 → ∀ s : Int, pp_tR (ct_S.A a) s := fun a ha s => by
    unfold pp_tR
    rw [ct_A0 a ha, ct_A0 a ha, ct_A0 a ha, ct_A0 a ha, ct_A0 a ha, ct_A0 a ha, ct_A0 a ha]
    omega
  have bz : ∀ a, a ≠ 102 → pp_bR (ct_S.A a) := fun a ha s _ _ => by rw [ct_A0 a ha]; omega
  have sup0 : ∀ s, mm_sup (ct_S.A 102) s = 0 := fun s => by unfold mm_sup; rw [f2]; rfl
  have cus0 : ∀ s, mm_cus (ct_S.A 102) s = 0 := fun s => by unfold mm_cus; rw [f2]; rfl
  have wf : ∀ i j, pp_Wf 0 (ct_S.A (3 + 3)) i j = false := fun i j => by
    unfold pp_Wf
    rw [decide_eq_false (by omega), Bool.false_and]
  have bt0 : ∀ i : Int, mm_bt 0 i = true → False := fun i z => by
    have := mm_bt_0 i
    rw [this] at z
    cases z
  refine ⟨⟨rfl, by decide, by decide, fun i i0 i1 => ?_⟩, ⟨rd_bare f0 (by omega) f2, ⟨by rw [i3, f0], by rw [i11, f1], fun s _ _ => by rw [sup0, cus0]; exact ⟨ct_A0 _ (by omega) _, ct_A0 _ (by omega) _⟩, fun s w s0 s1 => by omega, fun s _ _ => tz _ (by omega) s, fun s w s0 s1 => by omega, fun s w _ _ _ _ => ct_A0 _ (by omega) _⟩, ?_⟩, ⟨fun s _ _ => ?_, fun s _ _ => ?_⟩, ⟨Or.inl (ct_I0 0 12 (by omega) (by omega)), rfl, fun z => ?_⟩, fun s _ _ => ⟨tz _ (by omega) s, ?_, ?_⟩, ⟨rfl, by decide, by decide, fun r r0 r1 => ?_⟩, ⟨by decide, by decide, fun _ p _ _ z => ?_⟩, rfl, rfl, by decide, fun s s0 s1 => ?_, fun z => ?_⟩
  · have z : ct_S.I 1 1 = 0 := rfl
    omega
  · refine ⟨⟨by omega, by omega, bz _ (by omega), bz _ (by omega), fun s _ _ => tz _ (by omega) s⟩, ⟨fun i j _ _ _ _ z => ?_, fun i j _ _ _ _ => ?_, ?_, ?_⟩, ?_⟩
    · rw [ct_A0 _ (by omega)] at z
      exact absurd z (fun z => bt0 i z)
    · rw [ct_A0 _ (by omega), ct_A0 _ (by omega), mm_bt_0, mm_bt_0]
    · rw [i3]
      intro i j z
      rw [wf] at z
      cases z
    · rw [i3]
      exact ⟨fun _ => 0, fun i j z => by rw [wf] at z; cases z⟩
    · rw [i3]
      refine ⟨⟨fun i i0 i1 => by omega, fun i k i0 i1 i2 => by omega, fun i j i0 i1 => by omega, fun s s0 s1 => by omega⟩, fun s s0 s1 => by omega, fun s s0 s1 => by omega, fun s s0 s1 => by omega, fun s s0 s1 => by omega, fun s s0 s1 => ?_⟩
      rw [ct_A0 _ (by omega)]
      omega
  · rw [ct_A0 _ (by omega), ct_A0 _ (by omega)]
    omega
  · rw [ct_A0 _ (by omega), ct_A0 _ (by omega)]
    omega
  · exact absurd z (by decide)
  · rw [ct_A0 _ (by omega)]
    omega
  · rw [ct_A0 _ (by omega)]
    omega
  · have z : ct_S.I 36 3 = 0 := rfl
    omega
  · have e : ct_S.I 0 10 = 0 := rfl
    rw [e] at z
    exact (bt0 p z).elim
  · omega
  · exact absurd z (by decide)
theorem mm_pu : mm_PU := by
  intro E B hO hL h1 h2
  have hE : pp_OE E B := ⟨h1, h2, hO.2, hO.1⟩
  obtain ⟨hf, g1, g2, g3⟩ := lw_loop (E := E) (B := B) hE hL 513 0 5140 ct_S (some (B + 124), ct_a 1 (ct_mc (ct_a 39 (ct_pc (ct_a 14 (0, 0)))))) none none ct_iv (by omega) (by omega)
  have k1 : (ct_a 1 (ct_mc (ct_a 39 (ct_pc (ct_a 14 (0, 0)))))).1 ≤ 1000 := by decide
  have k2 : (ct_a 1 (ct_mc (ct_a 39 (ct_pc (ct_a 14 (0, 0)))))).2 ≤ 50000 := by decide
  refine ⟨5141, hf, ?_, ?_, ?_⟩
  · rw [← lw_run_eq]
    show mm_r282_0 E (lw_cl E) (5140 + 1) E.1.1 (mm_h0 B) = _
    rw [mm_e282_0, ct_0, ct_al, lw_lo E 101 (by omega), ct_c101 (by omega), mm_cV_ok, ct_al, lw_lo E 148 (by omega), ct_c148 (by omega), mm_cV_ok, ct_nn (by omega) (by omega), ct_al]
    have e1 := ct_hp B (ct_a 1 (ct_mc (ct_a 39 (ct_pc (ct_a 14 (0, 0))))))
    rw [← e1] at g1
    rw [List.length_append, ct_ml, ct_psl, show (mm_new.getD 8 []).length = 14 from rfl, show (mm_new.getD 9 []).length = 39 from rfl]
    unfold ct_all at g1
    exact g1
  · have z : hf.2.2.1 ≤ (ct_a 1 (ct_mc (ct_a 39 (ct_pc (ct_a 14 (0, 0)))))).1 + 513 := g2
    omega
  · have z : hf.2.2.2 ≤ (ct_a 1 (ct_mc (ct_a 39 (ct_pc (ct_a 14 (0, 0)))))).2 + 6 * 513 := g3
    omega
