/-! what is made never shrinks -/
def mm_le (h hf : mm_H) : Prop := h.2.2.1 ≤ hf.2.2.1 ∧ h.2.2.2 ≤ hf.2.2.2
section MMM
variable {E : mm_E} {cl : mm_F} {x : mm_I} {go : mm_K} {len pc : Nat} {L : mm_L} {st : List Value} {h hf : mm_H} {o : mm_O}
theorem mm_mn_al {c : mm_C} {sl : Nat} {κ : Nat → mm_H → mm_R} (hκ : ∀ n h', κ n h' = some (o, hf) → mm_le h' hf) (hr : mm_al h c sl κ = some (o, hf)) : mm_le h hf := by
  obtain ⟨n, -, hr⟩ := mm_al_of hr
  have g : h.2.2.1 + 1 ≤ hf.2.2.1 ∧ h.2.2.2 + sl ≤ hf.2.2.2 := hκ _ _ hr
  exact ⟨by omega, by omega⟩
theorem mm_mn_nn {n : Int32} {κ : Nat → mm_R} (hκ : ∀ k, κ k = some (o, hf) → mm_le h hf) (hr : mm_nn n κ = some (o, hf)) : mm_le h hf := by
  rcases mm_br_of (show mm_br (n < 0 ∨ 100000 < n.toNatClampNeg) none _ = _ from hr) with ⟨-, hr⟩ | ⟨-, hr⟩
  · cases hr
  · exact hκ _ hr
theorem mm_mn_inv {j : Nat} (hcl : ∀ j as h o' h', cl j as h = some (o', h') → mm_le h h') (hgo : ∀ t L' st' h', go t L' st' h' = some (o, hf) → mm_le h' hf) (hr : mm_inv E cl x j len pc go L st h = some (o, hf)) : mm_le h hf := by
  unfold mm_inv at hr
  cases h1 : Nat.ble 1000 j with
  | true =>
    rw [h1, cond_true] at hr
    cases h2 : Nat.beq j 1000 with
    | true =>
      rw [h2, cond_true] at hr
      obtain ⟨a, r, -, hr⟩ := mm_r1_of hr
      exact hgo _ _ _ _ (mm_bif_of hr).2
    | false =>
      rw [h2, cond_false] at hr
      cases h3 : Nat.beq j 1001 with
      | true =>
        rw [h3, cond_true] at hr
        obtain ⟨a, r, -, hr⟩ := mm_r1_of hr
        obtain ⟨t, -, hr⟩ := mm_sl_of (mm_bif_of hr).2
        exact (hgo _ _ _ _ hr :)
      | false =>
        rw [h3, cond_false] at hr
        cases h4 : Nat.beq j 1002 with
        | true =>
          rw [h4, cond_true] at hr
          obtain ⟨i, a, r, -, hr⟩ := mm_ir_of hr
          obtain ⟨t, -, -, hr⟩ := mm_sa_of (mm_bif_of hr).2
          exact (hgo _ _ _ _ hr :)
        | false =>
          rw [h4, cond_false] at hr
          cases h5 : Nat.beq j 1003 with
          | true =>
            rw [h5, cond_true] at hr
            obtain ⟨n, dp, d, sp, a, r, -, hr⟩ := mm_cq_of hr
            obtain ⟨n0, f, n1, g, -, -, -, -, -, -, -, hr⟩ := mm_cp_of (mm_bif_of hr).2
            exact (hgo _ _ _ _ hr :)
          | false =>
            rw [h5, cond_false] at hr
            cases h6 : Nat.beq j 1004 with
            | true =>
              rw [h6, cond_true] at hr
              obtain ⟨a, b, r, -, hr⟩ := mm_i2_of hr
              exact hgo _ _ _ _ (mm_bif_of hr).2
            | false =>
              rw [h6, cond_false] at hr
              obtain ⟨-, hr⟩ := mm_bif_of hr
              obtain ⟨a, b, r, -, hr⟩ := mm_i2_of hr
              exact hgo _ _ _ _ (mm_bif_of hr).2
  | false =>
    rw [h1, cond_false] at hr
    rcases mm_op_of hr with ⟨q, -, hr⟩ | ⟨-, hr⟩
    · obtain ⟨-, hr⟩ := mm_bif_of hr
      cases hv : Nat.beq (mm_x j).2.1.2.2 0 with
      | true =>
        rw [hv, cond_true] at hr
        rcases mm_cV_of hr with ⟨h', e1, e2⟩ | ⟨y, h', e1, e2⟩
        · have a := hcl _ _ _ _ _ e1
          have b := hgo _ _ _ _ e2
          exact ⟨Nat.le_trans a.1 b.1, Nat.le_trans a.2 b.2⟩
        · have ef := mm_th_hf e2
          subst ef
          exact hcl _ _ _ _ _ e1
      | false =>
        rw [hv, cond_false] at hr
        rcases mm_cI_of hr with ⟨v, h', e1, e2⟩ | ⟨y, h', e1, e2⟩
        · have a := hcl _ _ _ _ _ e1
          have b := hgo _ _ _ _ e2
          exact ⟨Nat.le_trans a.1 b.1, Nat.le_trans a.2 b.2⟩
        · have ef := mm_th_hf e2
          subst ef
          exact hcl _ _ _ _ _ e1
    · cases hr
set_option maxHeartbeats 4000000 in
theorem mm_mn_stp (hcl : ∀ j as h o' h', cl j as h = some (o', h') → mm_le h h') (hgo : ∀ t L' st' h', go t L' st' h' = some (o, hf) → mm_le h' hf) {i : Instr} (hr : mm_stp E cl x go i len pc L st h = some (o, hf)) : mm_le h hf := by
  cases i with
  | iconst v =>
    exact (hgo _ _ _ _ hr :)
  | bipush v =>
    exact (hgo _ _ _ _ hr :)
  | sipush v =>
    exact (hgo _ _ _ _ hr :)
  | lconst v =>
    exact (hgo _ _ _ _ hr :)
  | ldc k =>
    rcases mm_op_of hr with ⟨q, -, hr⟩ | ⟨-, hr⟩
    · exact (hgo _ _ _ _ hr :)
    · rcases mm_op_of hr with ⟨q, -, hr⟩ | ⟨-, hr⟩
      · exact (hgo _ _ _ _ hr :)
      · cases hr
  | ldc_w k =>
    rcases mm_op_of hr with ⟨q, -, hr⟩ | ⟨-, hr⟩
    · exact (hgo _ _ _ _ hr :)
    · rcases mm_op_of hr with ⟨q, -, hr⟩ | ⟨-, hr⟩
      · exact (hgo _ _ _ _ hr :)
      · cases hr
  | ldc2_w k =>
    rcases mm_op_of hr with ⟨q, -, hr⟩ | ⟨-, hr⟩
    · exact (hgo _ _ _ _ hr :)
    · cases hr
  | iload_n k =>
    obtain ⟨v, -, hr⟩ := mm_ldI_of (show mm_ldI L k.val st (fun s' => go (pc + len) L s' h) = some (o, hf) from hr)
    exact (hgo _ _ _ _ hr :)
  | iload k =>
    obtain ⟨v, -, hr⟩ := mm_ldI_of (show mm_ldI L k st (fun s' => go (pc + len) L s' h) = some (o, hf) from hr)
    exact (hgo _ _ _ _ hr :)
  | lload_n k =>
    obtain ⟨v, -, hr⟩ := mm_ldJ_of (show mm_ldJ L k.val st (fun s' => go (pc + len) L s' h) = some (o, hf) from hr)
    exact (hgo _ _ _ _ hr :)
  | lload k =>
    obtain ⟨v, -, hr⟩ := mm_ldJ_of (show mm_ldJ L k st (fun s' => go (pc + len) L s' h) = some (o, hf) from hr)
    exact (hgo _ _ _ _ hr :)
  | aload_n k =>
    obtain ⟨v, -, hr⟩ := mm_ldR_of (show mm_ldR L k.val st (fun s' => go (pc + len) L s' h) = some (o, hf) from hr)
    exact (hgo _ _ _ _ hr :)
  | aload k =>
    obtain ⟨v, -, hr⟩ := mm_ldR_of (show mm_ldR L k st (fun s' => go (pc + len) L s' h) = some (o, hf) from hr)
    exact (hgo _ _ _ _ hr :)
  | istore_n k =>
    obtain ⟨v, r, -, hr⟩ := mm_i1_of hr
    obtain ⟨L', hL'⟩ := mm_stk_go k.val L (.int v) (fun L' => go (pc + len) L' r h)
    exact hgo _ _ _ _ (hL'.symm.trans (mm_bif_of hr).2)
  | istore k =>
    obtain ⟨v, r, -, hr⟩ := mm_i1_of hr
    obtain ⟨L', hL'⟩ := mm_stk_go k L (.int v) (fun L' => go (pc + len) L' r h)
    exact hgo _ _ _ _ (hL'.symm.trans (mm_bif_of hr).2)
  | astore_n k =>
    obtain ⟨v, r, -, hr⟩ := mm_r1_of hr
    obtain ⟨L', hL'⟩ := mm_stk_go k.val L (.ref v) (fun L' => go (pc + len) L' r h)
    exact hgo _ _ _ _ (hL'.symm.trans (mm_bif_of hr).2)
  | astore k =>
    obtain ⟨v, r, -, hr⟩ := mm_r1_of hr
    obtain ⟨L', hL'⟩ := mm_stk_go k L (.ref v) (fun L' => go (pc + len) L' r h)
    exact hgo _ _ _ _ (hL'.symm.trans (mm_bif_of hr).2)
  | lstore_n k =>
    obtain ⟨v, r, -, hr⟩ := mm_l1_of hr
    obtain ⟨L', hL'⟩ := mm_stk2_go k.val L (.long v) (fun L' => go (pc + len) L' r h)
    exact hgo _ _ _ _ (hL'.symm.trans (mm_bif_of hr).2)
  | lstore k =>
    obtain ⟨v, r, -, hr⟩ := mm_l1_of hr
    obtain ⟨L', hL'⟩ := mm_stk2_go k L (.long v) (fun L' => go (pc + len) L' r h)
    exact hgo _ _ _ _ (hL'.symm.trans (mm_bif_of hr).2)
  | iinc k n =>
    obtain ⟨v, -, hr⟩ := mm_lv_of hr
    obtain ⟨L', hL'⟩ := mm_stk_go k L (.int (v + Int32.ofInt n)) (fun L' => go (pc + len) L' st h)
    exact hgo _ _ _ _ (hL'.symm.trans hr)
  | iadd =>
    obtain ⟨a, b, r, -, hr⟩ := mm_i2_of hr
    exact (hgo _ _ _ _ hr :)
  | isub =>
    obtain ⟨a, b, r, -, hr⟩ := mm_i2_of hr
    exact (hgo _ _ _ _ hr :)
  | imul =>
    obtain ⟨a, b, r, -, hr⟩ := mm_i2_of hr
    exact (hgo _ _ _ _ hr :)
  | iand =>
    obtain ⟨a, b, r, -, hr⟩ := mm_i2_of hr
    exact (hgo _ _ _ _ hr :)
  | ior =>
    obtain ⟨a, b, r, -, hr⟩ := mm_i2_of hr
    exact (hgo _ _ _ _ hr :)
  | ixor =>
    obtain ⟨a, b, r, -, hr⟩ := mm_i2_of hr
    exact (hgo _ _ _ _ hr :)
  | ishl =>
    obtain ⟨a, b, r, -, hr⟩ := mm_i2_of hr
    exact (hgo _ _ _ _ hr :)
  | ishr =>
    obtain ⟨a, b, r, -, hr⟩ := mm_i2_of hr
    exact (hgo _ _ _ _ hr :)
  | iushr =>
    obtain ⟨a, b, r, -, hr⟩ := mm_i2_of hr
    exact (hgo _ _ _ _ hr :)
  | ladd =>
    obtain ⟨a, b, r, -, hr⟩ := mm_j2_of hr
    exact (hgo _ _ _ _ hr :)
  | lmul =>
    obtain ⟨a, b, r, -, hr⟩ := mm_j2_of hr
    exact (hgo _ _ _ _ hr :)
  | land =>
    obtain ⟨a, b, r, -, hr⟩ := mm_j2_of hr
    exact (hgo _ _ _ _ hr :)
  | idiv =>
    obtain ⟨a, b, r, -, hr⟩ := mm_i2_of hr
    rcases mm_br_of (show mm_br (b = 0) none _ = _ from hr) with ⟨-, hr⟩ | ⟨-, hr⟩
    · cases hr
    · exact (hgo _ _ _ _ hr :)
  | irem =>
    obtain ⟨a, b, r, -, hr⟩ := mm_i2_of hr
    rcases mm_br_of (show mm_br (b = 0) none _ = _ from hr) with ⟨-, hr⟩ | ⟨-, hr⟩
    · cases hr
    · exact (hgo _ _ _ _ hr :)
  | ldiv =>
    obtain ⟨a, b, r, -, hr⟩ := mm_j2_of hr
    rcases mm_br_of (show mm_br (b = 0) none _ = _ from hr) with ⟨-, hr⟩ | ⟨-, hr⟩
    · cases hr
    · exact (hgo _ _ _ _ hr :)
  | ineg =>
    obtain ⟨a, r, -, hr⟩ := mm_i1_of hr
    exact (hgo _ _ _ _ hr :)
  | i2l =>
    obtain ⟨a, r, -, hr⟩ := mm_i1_of hr
    exact (hgo _ _ _ _ hr :)
  | pop =>
    obtain ⟨a, r, -, hr⟩ := mm_i1_of hr
    exact (hgo _ _ _ _ hr :)
  | lshl =>
    obtain ⟨b, a, r, -, hr⟩ := mm_il_of hr
    exact (hgo _ _ _ _ hr :)
  | lshr =>
    obtain ⟨b, a, r, -, hr⟩ := mm_il_of hr
    exact (hgo _ _ _ _ hr :)
  | lcmp =>
    obtain ⟨a, b, r, -, hr⟩ := mm_j2_of hr
    exact (hgo _ _ _ _ hr :)
  | l2i =>
    obtain ⟨a, r, -, hr⟩ := mm_l1_of hr
    exact (hgo _ _ _ _ hr :)
  | dup =>
    obtain ⟨v, r, -, -, hr⟩ := mm_dp_of (show mm_dp st (fun s' => go (pc + len) L s' h) = some (o, hf) from hr)
    exact (hgo _ _ _ _ hr :)
  | dup2 =>
    obtain ⟨v, w, r, -, -, -, hr⟩ := mm_d2_of (show mm_d2 st (fun s' => go (pc + len) L s' h) = some (o, hf) from hr)
    exact (hgo _ _ _ _ hr :)
  | goto off =>
    obtain ⟨t, -, hr⟩ := mm_tg_of hr
    exact (hgo _ _ _ _ hr :)
  | if_icmp cd off =>
    obtain ⟨a, b, r, -, hr⟩ := mm_i2_of hr
    obtain ⟨t, -, hr⟩ := mm_tg_of hr
    cases cd <;> (rcases mm_br_of hr with ⟨-, hr⟩ | ⟨-, hr⟩ <;> exact hgo _ _ _ _ hr)
  | ifCond cd off =>
    obtain ⟨a, r, -, hr⟩ := mm_i1_of hr
    obtain ⟨t, -, hr⟩ := mm_tg_of hr
    cases cd <;> (rcases mm_br_of hr with ⟨-, hr⟩ | ⟨-, hr⟩ <;> exact hgo _ _ _ _ hr)
  | tableswitch df lo hi offs =>
    obtain ⟨a, r, -, hr⟩ := mm_i1_of hr
    rcases mm_sw_of _ _ (mm_bif_of hr).2 with ⟨i, off, -, -, hr⟩ | ⟨-, hr⟩
    · obtain ⟨t, -, hr⟩ := mm_tg_of hr
      exact (hgo _ _ _ _ hr :)
    · obtain ⟨t, -, hr⟩ := mm_tg_of hr
      exact (hgo _ _ _ _ hr :)
  | lookupswitch df ps =>
    obtain ⟨a, r, -, hr⟩ := mm_i1_of hr
    obtain ⟨hc, hr⟩ := mm_bif_of hr
    rw [Bool.and_eq_true] at hc
    have hr := mm_lw_of _ (fun q hq => of_decide_eq_true (List.all_eq_true.mp hc.2 q hq)) hr
    obtain ⟨t, -, hr⟩ := mm_tg_of hr
    exact (hgo _ _ _ _ hr :)
  | getfield k =>
    obtain ⟨a, r, -, hr⟩ := mm_r1_of hr
    rcases mm_op_of hr with ⟨q, -, hr⟩ | ⟨-, hr⟩
    · cases h1 : Nat.beq q.2.2.2.1 1 with
      | true =>
        rw [h1, cond_true] at hr
        obtain ⟨fs, v, -, -, hr⟩ := mm_gJ_of hr
        exact (hgo _ _ _ _ hr :)
      | false =>
        rw [h1, cond_false] at hr
        cases h2 : Nat.beq q.2.2.2.1 2 with
        | true =>
          rw [h2, cond_true] at hr
          obtain ⟨fs, v, -, -, hr⟩ := mm_gR_of hr
          exact (hgo _ _ _ _ hr :)
        | false =>
          rw [h2, cond_false] at hr
          obtain ⟨fs, v, -, -, hr⟩ := mm_gI_of hr
          exact (hgo _ _ _ _ hr :)
    · cases hr
  | putfield k =>
    obtain ⟨v, a, r, -, hr⟩ := mm_vr_of hr
    rcases mm_op_of hr with ⟨q, -, hr⟩ | ⟨-, hr⟩
    · obtain ⟨fs, -, -, hr⟩ := mm_pF_of (mm_pv_of (mm_bif_of hr).2).1
      exact (hgo _ _ _ _ hr :)
    · cases hr
  | getstatic k =>
    exact hgo _ _ _ _ (mm_bif_of hr).2
  | iaload =>
    obtain ⟨i, a, r, -, hr⟩ := mm_ir_of hr
    rcases mm_rI_of hr with ⟨n, f, -, -, hr⟩ | ⟨-, -, hr⟩ | ⟨-, -, hr⟩ <;> exact hgo _ _ _ _ hr
  | laload =>
    obtain ⟨i, a, r, -, hr⟩ := mm_ir_of hr
    obtain ⟨n, f, -, -, hr⟩ := mm_rJ_of hr
    exact (hgo _ _ _ _ hr :)
  | aaload =>
    obtain ⟨i, a, r, -, hr⟩ := mm_ir_of hr
    obtain ⟨n, f, q, -, -, -, hr⟩ := mm_rR_of hr
    exact (hgo _ _ _ _ hr :)
  | iastore =>
    obtain ⟨v, i, a, r, -, hr⟩ := mm_iir_of hr
    obtain ⟨n, f, -, -, hr⟩ := mm_wI_of hr
    exact (hgo _ _ _ _ hr :)
  | lastore =>
    obtain ⟨v, i, a, r, -, hr⟩ := mm_lir_of hr
    obtain ⟨n, f, -, -, hr⟩ := mm_wJ_of hr
    exact (hgo _ _ _ _ hr :)
  | aastore =>
    obtain ⟨v, i, a, r, -, hr⟩ := mm_rir_of hr
    obtain ⟨n, f, fs, -, -, -, hr⟩ := mm_wR_of hr
    exact (hgo _ _ _ _ hr :)
  | arraylength =>
    obtain ⟨a, r, -, hr⟩ := mm_r1_of hr
    unfold mm_ln at hr
    split at hr
    · exact (hgo _ _ _ _ hr :)
    · exact (hgo _ _ _ _ hr :)
    · exact (hgo _ _ _ _ hr :)
    · split at hr
      · exact (hgo _ _ _ _ hr :)
      · split at hr
        · exact (hgo _ _ _ _ hr :)
        · cases hr
    · cases hr
  | newarray ty =>
    cases ty with
    | int =>
      obtain ⟨a, r, -, hr⟩ := mm_i1_of hr
      exact mm_mn_nn (fun k hr => mm_mn_al (fun n h' hr => hgo _ _ _ _ hr) hr) hr
    | long =>
      obtain ⟨a, r, -, hr⟩ := mm_i1_of hr
      exact mm_mn_nn (fun k hr => mm_mn_al (fun n h' hr => hgo _ _ _ _ hr) hr) hr
    | _ => exact absurd hr (fun q => by cases q)
  | anewarray k =>
    obtain ⟨-, hr⟩ := mm_bif_of hr
    obtain ⟨a, r, -, hr⟩ := mm_i1_of hr
    exact mm_mn_nn (fun k hr => mm_mn_al (fun n h' hr => hgo _ _ _ _ hr) hr) hr
  | new k =>
    rcases mm_op_of hr with ⟨q, -, hr⟩ | ⟨-, hr⟩
    · obtain ⟨-, hr⟩ := mm_bif_of hr
      have hhf : hf = (h.1, (none, (h.2.2.1 + 1, h.2.2.2 + 6))) := (congrArg Prod.snd (Option.some.inj hr)).symm
      rw [hhf]
      exact ⟨Nat.le_succ _, Nat.le_add_right _ _⟩
    · rcases mm_op_of hr with ⟨q, -, hr⟩ | ⟨-, hr⟩
      · exact mm_mn_al (fun n h' hr => hgo _ _ _ _ hr) hr
      · cases hr
  | invokevirtual k =>
    rcases mm_op_of hr with ⟨q, -, hr⟩ | ⟨-, hr⟩
    · exact mm_mn_inv hcl hgo hr
    · cases hr
  | invokestatic k =>
    rcases mm_op_of hr with ⟨q, -, hr⟩ | ⟨-, hr⟩
    · exact mm_mn_inv hcl hgo hr
    · cases hr
  | invokespecial k =>
    rcases mm_op_of hr with ⟨q, -, hr⟩ | ⟨-, hr⟩
    · exact mm_mn_inv hcl hgo hr
    · cases hr
  | ireturn =>
    obtain ⟨v, -, hr⟩ := mm_e1_of hr
    cases h1 : Nat.beq x.2.1.2.2 1 with
    | true =>
      rw [h1, cond_true] at hr
      cases hr
      exact ⟨Nat.le_refl _, Nat.le_refl _⟩
    | false =>
      rw [h1, cond_false] at hr
      rcases mm_br_of (show mm_br (v = 0 ∨ v = 1) _ none = _ from (mm_bif_of hr).2) with ⟨-, hr⟩ | ⟨-, hr⟩
      · cases hr
        exact ⟨Nat.le_refl _, Nat.le_refl _⟩
      · cases hr
  | return_ =>
    obtain ⟨-, hr⟩ := mm_e0_of hr
    have hr := (mm_bif_of hr).2
    cases hr
    exact ⟨Nat.le_refl _, Nat.le_refl _⟩
  | _ => exact absurd hr (fun q => by cases q)
theorem mm_mn_blk {kn : mm_K} (hcl : ∀ j as h o' h', cl j as h = some (o', h') → mm_le h h') (hkn : ∀ t L' st' h', kn t L' st' h' = some (o, hf) → mm_le h' hf) : ∀ (n pc : Nat) (L : mm_L) (st : List Value) (h : mm_H), mm_blk E cl kn x n pc L st h = some (o, hf) → mm_le h hf := by
  intro n
  induction n with
  | zero => intro pc L st h hr; cases hr
  | succ n ih =>
    intro pc L st h hr
    unfold mm_blk at hr
    split at hr
    · refine mm_mn_stp hcl (fun t L' st' h' hz => ?_) hr
      cases hcut : mm_cut x t with
      | true => rw [hcut] at hz; exact hkn t L' st' h' hz
      | false => rw [hcut] at hz; exact ih t L' st' h' hz
    · cases hr
theorem mm_mn_run (hcl : ∀ j as h o' h', cl j as h = some (o', h') → mm_le h h') : ∀ (n pc : Nat) (L : mm_L) (st : List Value) (h : mm_H), mm_run E cl x n pc L st h = some (o, hf) → mm_le h hf := by
  intro n
  induction n with
  | zero => intro pc L st h hr; cases hr
  | succ n ih =>
    intro pc L st h hr
    exact mm_mn_blk hcl ih 3000 pc L st h hr
end MMM
theorem mm_mn_ev (E : mm_E) : ∀ (d j : Nat) (as : List Value) (h : mm_H) (o : mm_O) (h' : mm_H), mm_ev E d j as h = some (o, h') → mm_le h h'
  | 0, _, _, _, _, _, hr => by cases hr
  | d + 1, j, as, h, o, h', hr => mm_mn_run (mm_mn_ev E d) _ _ _ _ _ (mm_bif_of hr).2
