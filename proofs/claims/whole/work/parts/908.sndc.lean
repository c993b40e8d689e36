/-! SOUNDNESS, third part: fields and rows -/
theorem mm_ca_mem {q : Nat × Nat × Nat × Nat} (h : q ∈ mm_ca) (h0 : ¬ q.1 = 0) : mm_wd q ∈ tables_1 := by
  unfold mm_ca at h
  show mm_wd q ∈ tables_1_1 ++ (tables_1_2 ++ (tables_1_3 ++ (tables_1_4 ++ (tables_1_5 ++ (tables_1_6 ++ (tables_1_7 ++ tables_1_8))))))
  simp only [List.mem_append] at h ⊢
  rcases h with h | h | h | h | h | h | h | h
  · exact Or.inl (mm_wp_mem _ _ mm_z1 q h h0)
  · exact Or.inr (Or.inl (mm_wp_mem _ _ mm_z2 q h h0))
  · exact Or.inr (Or.inr (Or.inl (mm_wp_mem _ _ mm_z3 q h h0)))
  · exact Or.inr (Or.inr (Or.inr (Or.inl (mm_wp_mem _ _ mm_z4 q h h0))))
  · exact Or.inr (Or.inr (Or.inr (Or.inr (Or.inl (mm_wp_mem _ _ mm_z5 q h h0)))))
  · exact Or.inr (Or.inr (Or.inr (Or.inr (Or.inr (Or.inl (mm_wp_mem _ _ mm_z6 q h h0))))))
  · exact Or.inr (Or.inr (Or.inr (Or.inr (Or.inr (Or.inr (Or.inl (mm_wp_mem _ _ mm_z7 q h h0)))))))
  · exact Or.inr (Or.inr (Or.inr (Or.inr (Or.inr (Or.inr (Or.inr (mm_wp_mem _ _ mm_z8 q h h0)))))))
/-- a claim is among the claims: a search with numbers alone -/
def mm_has (q : Nat × Nat × Nat × Nat) : Bool := mm_ca.any (fun z => Nat.beq z.1 q.1 && (Nat.beq z.2.1 q.2.1 && (Nat.beq z.2.2.1 q.2.2.1 && Nat.beq z.2.2.2 q.2.2.2)))
theorem mm_has_mem {q : Nat × Nat × Nat × Nat} (h : mm_has q = true) : q ∈ mm_ca := by
  unfold mm_has at h
  obtain ⟨z, hz, h⟩ := List.any_eq_true.mp h
  simp only [Bool.and_eq_true] at h
  obtain ⟨h1, h2, h3, h4⟩ := h
  have e : z = q := Prod.ext (Nat.eq_of_beq_eq_true h1) (Prod.ext (Nat.eq_of_beq_eq_true h2) (Prod.ext (Nat.eq_of_beq_eq_true h3) (Nat.eq_of_beq_eq_true h4)))
  exact e ▸ hz
theorem mm_tb_cl {q : Nat × Nat × Nat × Nat} (h : mm_has q = true) (h0 : ¬ q.1 = 0) (hg : goodWord (mm_wd q) = true) : mm_wd q ∈ mm_tb := mm_tb_of (mm_ca_mem (mm_has_mem h) h0) hg
-- classes and fields
theorem mm_ly_ok : (List.range 10).all (fun ci => (List.range (mm_vcn ci).2.2).all (fun k => mm_has (11, ci, k, 0)) && (mm_has (10, ci, 0, 0) && (mm_has (9, ci, 0, 0) && (Nat.beq (mm_new.getD ci []).length (mm_vcn ci).2.2 && decide (mm_cn ci = (mm_vcn ci).1))))) = true := by decide +kernel
theorem mm_ly_at {ci : Nat} (h : ci < 10) : (∀ k, k < (mm_vcn ci).2.2 → mm_has (11, ci, k, 0) = true) ∧ mm_has (10, ci, 0, 0) = true ∧ mm_has (9, ci, 0, 0) = true ∧ (mm_new.getD ci []).length = (mm_vcn ci).2.2 ∧ mm_cn ci = (mm_vcn ci).1 := by
  have h1 := List.all_eq_true.mp mm_ly_ok ci (List.mem_range.mpr h)
  simp only [Bool.and_eq_true, decide_eq_true_eq] at h1
  obtain ⟨a, b, c, d, e⟩ := h1
  exact ⟨fun k hk => List.all_eq_true.mp a k (List.mem_range.mpr hk), b, c, Nat.eq_of_beq_eq_true d, e⟩
theorem mm_vc_at {ci : Nat} (h : ci < 10) : mm_vc[ci]? = some ((mm_vcn ci).1, (mm_vcn ci).2.1, (mm_vcn ci).2.2) := by
  have hl : ci < mm_vc.length := h
  show mm_vc[ci]? = some (mm_vc.getD ci _)
  rw [List.getD_eq_getElem?_getD, List.getElem?_eq_getElem hl]
  rfl
theorem mm_good_lay (C : String) (T : u_T) (k : Nat) : goodWord (u_lay C T k) = true := by
  unfold u_lay
  split <;> rfl
theorem mm_lays {ci : Nat} (h : ci < 10) : ∀ w ∈ u_ws (mm_vcn ci).1 (mm_vcn ci).2.1 (mm_vcn ci).2.2, w ∈ mm_tb := by
  intro w hw
  obtain ⟨k, hk, rfl⟩ := List.mem_map.mp hw
  exact mm_tb_cl (q := (11, ci, k, 0)) ((mm_ly_at h).1 k (List.mem_range.mp hk)) (show ¬ (11 : Nat) = 0 by decide) (mm_good_lay _ _ _)
theorem mm_nmT : ∀ ci, ci < 10 → ∀ a, a < (mm_vcn ci).2.2 → ∀ b, b < (mm_vcn ci).2.2 → a ≠ b → ((mm_vcn ci).2.1 a).2.1 ≠ ((mm_vcn ci).2.1 b).2.1 := by
  intro ci h
  match ci, h with
  | 0, _ => exact mm_nm0
  | 1, _ => exact mm_nm1
  | 2, _ => exact mm_nm2
  | 3, _ => exact mm_nm3
  | 4, _ => exact mm_nm4
  | 5, _ => exact mm_nm5
  | 6, _ => exact mm_nm6
  | 7, _ => exact mm_nm7
  | 8, _ => exact mm_nm8
  | 9, _ => exact mm_nm9
  | n + 10, h => omega
def mm_tn (ci : Nat) : Nat → FieldType := ([mm_t0, mm_t1, mm_t2, mm_t3, mm_t4, mm_t5, mm_t6, mm_t7, mm_t8, mm_t9] : List (Nat → FieldType)).getD ci mm_t0
theorem mm_okT : ∀ ci, ci < 10 → ∀ k, k < (mm_vcn ci).2.2 → parseFieldDescriptor ((mm_vcn ci).2.1 k).2.2.1 = some (mm_tn ci k) := by
  intro ci h
  match ci, h with
  | 0, _ => exact mm_ok0
  | 1, _ => exact mm_ok1
  | 2, _ => exact mm_ok2
  | 3, _ => exact mm_ok3
  | 4, _ => exact mm_ok4
  | 5, _ => exact mm_ok5
  | 6, _ => exact mm_ok6
  | 7, _ => exact mm_ok7
  | 8, _ => exact mm_ok8
  | 9, _ => exact mm_ok9
  | n + 10, h => omega
/-- a row of the table of fields: own, the class and field, its type's number -/
def mm_flk (own : Nat) (q : Nat × Nat × Nat × Nat × Nat) : Bool := Nat.ble (q.2.1 + 1) 10 && (Nat.ble (q.2.2.1 + 1) (mm_vcn q.2.1).2.2 && (Nat.ble (q.2.2.1 + 1) 100 && (mm_has (3, own, q.1, 100 * q.2.1 + q.2.2.1)
  && (decide (mm_tn q.2.1 q.2.2.1 = .int) == Nat.beq q.2.2.2.1 0 && (decide (mm_tn q.2.1 q.2.2.1 = .long) == Nat.beq q.2.2.2.1 1 && (decide (mm_tn q.2.1 q.2.2.1 = .boolean) == Nat.beq q.2.2.2.1 3 && (fits (mm_tn q.2.1 q.2.2.1) .null == Nat.beq q.2.2.2.1 2
  && ((mm_fin.getD q.2.1 []).getD q.2.2.1 true == ((mm_vcn q.2.1).2.1 q.2.2.1).2.2.2 && decide (((mm_vcn q.2.1).2.1 q.2.2.1).1 = mm_cn q.2.1)))))))))
theorem mm_fl_ok : (List.range 14).all (fun own => (mm_fl.getD own []).all (mm_flk own)) = true := by decide +kernel
theorem mm_fl_at {own k : Nat} {q : Nat × Nat × Nat × Nat × Nat} (ho : own < 14) (h : mm_fd mm_fl own k = some q) : q.2.1 < 10 ∧ q.2.2.1 < (mm_vcn q.2.1).2.2 ∧ Cond.fieldLink (mm_cn own) k ((mm_vcn q.2.1).2.1 q.2.2.1).1 ((mm_vcn q.2.1).2.1 q.2.2.1).2.1 ((mm_vcn q.2.1).2.1 q.2.2.1).2.2.1 ∈ mm_tb
    ∧ (decide (mm_tn q.2.1 q.2.2.1 = .int) = Nat.beq q.2.2.2.1 0 ∧ decide (mm_tn q.2.1 q.2.2.1 = .long) = Nat.beq q.2.2.2.1 1 ∧ decide (mm_tn q.2.1 q.2.2.1 = .boolean) = Nat.beq q.2.2.2.1 3 ∧ fits (mm_tn q.2.1 q.2.2.1) .null = Nat.beq q.2.2.2.1 2)
    ∧ (mm_fin.getD q.2.1 []).getD q.2.2.1 true = ((mm_vcn q.2.1).2.1 q.2.2.1).2.2.2 ∧ ((mm_vcn q.2.1).2.1 q.2.2.1).1 = mm_cn q.2.1 := by
  obtain ⟨h1, h2⟩ := mm_fd_of h
  have h3 := List.all_eq_true.mp (List.all_eq_true.mp mm_fl_ok own (List.mem_range.mpr ho)) q h1
  unfold mm_flk at h3
  simp only [Bool.and_eq_true, beq_iff_eq, decide_eq_true_eq] at h3
  obtain ⟨a, b, c, d, e1, e2, e3, e4, f, g⟩ := h3
  have a := Nat.le_of_ble_eq_true a
  have b := Nat.le_of_ble_eq_true b
  have c := Nat.le_of_ble_eq_true c
  have hw := mm_tb_cl d (show ¬ (3 : Nat) = 0 by decide) rfl
  have e5 : (100 * q.2.1 + q.2.2.1) / 100 = q.2.1 := by omega
  have e6 : (100 * q.2.1 + q.2.2.1) % 100 = q.2.2.1 := by omega
  refine ⟨a, b, ?_, ⟨e1, e2, e3, e4⟩, f, g⟩
  have hw2 : Cond.fieldLink (mm_cn own) q.1 ((mm_vcn ((100 * q.2.1 + q.2.2.1) / 100)).2.1 ((100 * q.2.1 + q.2.2.1) % 100)).1 ((mm_vcn ((100 * q.2.1 + q.2.2.1) / 100)).2.1 ((100 * q.2.1 + q.2.2.1) % 100)).2.1 ((mm_vcn ((100 * q.2.1 + q.2.2.1) / 100)).2.1 ((100 * q.2.1 + q.2.2.1) % 100)).2.2.1 ∈ mm_tb := hw
  rw [e5, e6, h2] at hw2
  exact hw2
-- reading the combinators of cells
theorem mm_gI_of {h : mm_H} {a ci k : Nat} {κ : Int32 → mm_R} {r : mm_O × mm_H} (e : mm_gI h a ci k κ = some r) : ∃ fs v, h.1 a = some (.inl (ci, fs)) ∧ fs[k]? = some (.int v) ∧ κ v = some r := by
  unfold mm_gI at e
  split at e
  · next c fs hc =>
    split at e
    · next v hv =>
      obtain ⟨hb, e2⟩ := mm_bif_of e
      have hb := Nat.eq_of_beq_eq_true hb
      subst hb
      exact ⟨fs, v, hc, hv, e2⟩
    · cases e
  · cases e
theorem mm_gJ_of {h : mm_H} {a ci k : Nat} {κ : Int64 → mm_R} {r : mm_O × mm_H} (e : mm_gJ h a ci k κ = some r) : ∃ fs v, h.1 a = some (.inl (ci, fs)) ∧ fs[k]? = some (.long v) ∧ κ v = some r := by
  unfold mm_gJ at e
  split at e
  · next c fs hc =>
    split at e
    · next v hv =>
      obtain ⟨hb, e2⟩ := mm_bif_of e
      have hb := Nat.eq_of_beq_eq_true hb
      subst hb
      exact ⟨fs, v, hc, hv, e2⟩
    · cases e
  · cases e
theorem mm_gR_of {h : mm_H} {a ci k : Nat} {κ : Nat → mm_R} {r : mm_O × mm_H} (e : mm_gR h a ci k κ = some r) : ∃ fs v, h.1 a = some (.inl (ci, fs)) ∧ fs[k]? = some (.ref v) ∧ κ v = some r := by
  unfold mm_gR at e
  split at e
  · next c fs hc =>
    split at e
    · next v hv =>
      obtain ⟨hb, e2⟩ := mm_bif_of e
      have hb := Nat.eq_of_beq_eq_true hb
      subst hb
      exact ⟨fs, v, hc, hv, e2⟩
    · cases e
  · cases e
theorem mm_pF_of {h : mm_H} {a ci k : Nat} {v : Value} {κ : mm_H → mm_R} {r : mm_O × mm_H} (e : mm_pF h a ci k v κ = some r) : ∃ fs, h.1 a = some (.inl (ci, fs)) ∧ k < fs.length ∧ κ (mm_up h a (.inl (ci, fs.set k v))) = some r := by
  unfold mm_pF at e
  split at e
  · next c fs hc =>
    obtain ⟨hb, e2⟩ := mm_bif_of e
    rw [Bool.and_eq_true] at hb
    have hb1 := Nat.eq_of_beq_eq_true hb.1
    subst hb1
    exact ⟨fs, hc, Nat.le_of_ble_eq_true hb.2, e2⟩
  · cases e
theorem mm_rI_of {E : mm_E} {h : mm_H} {a : Nat} {i : Int32} {κ : Int32 → mm_R} {r : mm_O × mm_H} (e : mm_rI E h a i κ = some r) : (∃ n f, h.1 a = some (.inr (.inl (n, f))) ∧ vp_in i n ∧ κ (f i.toNatClampNeg) = some r)
    ∨ (a = E.1.1 ∧ vp_in i E.1.2.1 ∧ κ (E.1.2.2 i.toNatClampNeg) = some r) ∨ (a = E.2.1 ∧ vp_in i 7 ∧ κ (mm_most.getD i.toNatClampNeg 0) = some r) := by
  unfold mm_rI at e
  split at e
  · next n f hc =>
    obtain ⟨hn, e⟩ := mm_if_of e
    exact Or.inl ⟨n, f, hc, hn, e⟩
  · split at e
    · next ha =>
      obtain ⟨hn, e⟩ := mm_if_of e
      exact Or.inr (Or.inl ⟨ha, hn, e⟩)
    · split at e
      · next ha =>
        obtain ⟨hn, e⟩ := mm_if_of e
        exact Or.inr (Or.inr ⟨ha, hn, e⟩)
      · cases e
  · cases e
theorem mm_wI_of {h : mm_H} {a : Nat} {i x : Int32} {κ : mm_H → mm_R} {r : mm_O × mm_H} (e : mm_wI h a i x κ = some r) : ∃ n f, h.1 a = some (.inr (.inl (n, f))) ∧ vp_in i n ∧ κ (mm_up h a (.inr (.inl (n, upd f i.toNatClampNeg x)))) = some r := by
  unfold mm_wI at e
  split at e
  · next n f hc =>
    obtain ⟨hn, e⟩ := mm_if_of e
    exact ⟨n, f, hc, hn, e⟩
  · cases e
theorem mm_rJ_of {h : mm_H} {a : Nat} {i : Int32} {κ : Int64 → mm_R} {r : mm_O × mm_H} (e : mm_rJ h a i κ = some r) : ∃ n f, h.1 a = some (.inr (.inr (.inl (n, f)))) ∧ vp_in i n ∧ κ (f i.toNatClampNeg) = some r := by
  unfold mm_rJ at e
  split at e
  · next n f hc =>
    obtain ⟨hn, e⟩ := mm_if_of e
    exact ⟨n, f, hc, hn, e⟩
  · cases e
theorem mm_wJ_of {h : mm_H} {a : Nat} {i : Int32} {x : Int64} {κ : mm_H → mm_R} {r : mm_O × mm_H} (e : mm_wJ h a i x κ = some r) : ∃ n f, h.1 a = some (.inr (.inr (.inl (n, f)))) ∧ vp_in i n ∧ κ (mm_up h a (.inr (.inr (.inl (n, vp_updL f i.toNatClampNeg x))))) = some r := by
  unfold mm_wJ at e
  split at e
  · next n f hc =>
    obtain ⟨hn, e⟩ := mm_if_of e
    exact ⟨n, f, hc, hn, e⟩
  · cases e
theorem mm_rR_of {h : mm_H} {a : Nat} {i : Int32} {κ : Nat → mm_R} {r : mm_O × mm_H} (e : mm_rR h a i κ = some r) : ∃ n f q, h.1 a = some (.inr (.inr (.inr (n, f)))) ∧ vp_in i n ∧ f i.toNatClampNeg = some q ∧ κ q = some r := by
  unfold mm_rR at e
  split at e
  · next n f hc =>
    obtain ⟨hn, e⟩ := mm_if_of e
    split at e
    · next q hq => exact ⟨n, f, q, hc, hn, hq, e⟩
    · cases e
  · cases e
theorem mm_wR_of {h : mm_H} {a : Nat} {i : Int32} {x : Nat} {κ : mm_H → mm_R} {r : mm_O × mm_H} (e : mm_wR h a i x κ = some r) : ∃ n f fs, h.1 a = some (.inr (.inr (.inr (n, f)))) ∧ h.1 x = some (.inl (5, fs)) ∧ vp_in i n ∧ κ (mm_up h a (.inr (.inr (.inr (n, va_up f i.toNatClampNeg (some x)))))) = some r := by
  unfold mm_wR at e
  split at e
  · next n f hc =>
    split at e
    · next c fs hx =>
      obtain ⟨hn, e2⟩ := mm_if_of e
      have h5 : c = 5 := Decidable.byContradiction fun z => hn (Or.inr z)
      subst h5
      exact ⟨n, f, fs, hc, hx, fun z => hn (Or.inl z), e2⟩
    · cases e
  · cases e
theorem mm_al_of {h : mm_H} {c : mm_C} {sl : Nat} {κ : Nat → mm_H → mm_R} {r : mm_O × mm_H} (e : mm_al h c sl κ = some r) : ∃ n, h.2.1 = some n ∧ κ n (va_up h.1 n (some c), (some (n + 1), (h.2.2.1 + 1, h.2.2.2 + sl))) = some r := by
  unfold mm_al at e
  split at e
  · next n hn => exact ⟨n, hn, e⟩
  · cases e
