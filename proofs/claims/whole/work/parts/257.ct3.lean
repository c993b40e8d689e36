/-! THE START: the class, the model -/
def ct_a (k : Nat) (c : Nat × Nat) : Nat × Nat := (c.1 + 1, c.2 + k)
def ct_fN (c : Nat × Nat) : Nat × Nat := (c.1 + 1 + 1 + 1 + 1 + 1 + 1 + 1 + 1 + 1 + 1, c.2 + 84 + 72 + 12 + 12 + 12 + 480 + 12 + 12 + 12 + 12)
def ct_ps (B : Nat) : List mm_C := .inl (8, [.ref (B + 1), .ref (B + 3), .ref (B + 14), .ref (B + 25), .ref (B + 36), .ref (B + 40), .ref (B + 93), .ref (B + 96), .ref (B + 97), .ref (B + 100), .int (mm_i 0), .int (mm_i 0), .int (mm_i 0), .int (mm_i (-1))]) :: ([] ++ ct_tok B 1 ++ ct_net B 3 ++ ct_net B 14 ++ ct_net B 25 ++ ct_act B 36 ++ ct_best B 40 ++ ct_led B 93 ++ ct_tel (B + 1) (B + 14) ++ ct_que B (B + 1) (B + 3) 97 ++ [ct_I 21])
def ct_pc (c : Nat × Nat) : Nat × Nat := ct_a 21 ((fun c => (c.1 + 1 + 1, c.2 + 200 + 64)) (ct_a 7 (ct_a 3 ((fun c => (c.1 + 1 + 1, c.2 + 41 + 41)) (ct_a 5 (ct_bc (ct_b0 (ct_a 10 ((fun c => (c.1 + 1 + 1 + 1, c.2 + 20 + 20 + 20)) (ct_a 5 (ct_fN (ct_a 13 (ct_fN (ct_a 13 (ct_fN (ct_a 13 ((fun c => (c.1 + 1, c.2 + 400)) (ct_a 6 c)))))))))))) 12))))))
section
variable {E : mm_E} {d B : Nat} {L : List mm_C} {c : Nat × Nat}
theorem ct_c101 (hd : 3 ≤ d) : mm_ev E d 101 [.ref (B + ([] : List mm_C).length)] (ct_h B ([] ++ [.inl (8, mm_new.getD 8 [])]) c) = mm_oV (ct_h B (ct_ps B) (ct_pc c)) := by
  refine mm_ev_go (by omega) (ct_rok rfl) rfl (fun F e hF he => ?_)
  show mm_r101_0 E (mm_ev E e) (F + 100) (B + ([] : List mm_C).length) _ = _
  have T := ct_in (E := E) (d := e) (B := B) (J := 92) (as := []) (x := .inl (7, mm_new.getD 7 [])) (cells := fun p => ct_tok B p) (f := fun c => (c.1 + 1, c.2 + 400)) (fun L c => ct_c92 (by omega))
  have N := ct_in (E := E) (d := e) (B := B) (J := 29) (as := []) (x := .inl (3, mm_new.getD 3 [])) (cells := fun p => ct_net B p) (f := ct_fN) (fun L c => ct_c29 (by omega))
  have A := ct_in (E := E) (d := e) (B := B) (J := 0) (as := []) (x := .inl (0, mm_new.getD 0 [])) (cells := fun p => ct_act B p) (f := fun c => (c.1 + 1 + 1 + 1, c.2 + 20 + 20 + 20)) (fun L c => ct_c0 (by omega))
  have Be := ct_in (E := E) (d := e) (B := B) (J := 4) (as := []) (x := .inl (1, mm_new.getD 1 [])) (cells := fun p => ct_best B p) (f := fun c => ct_bc (ct_b0 c) 12) (fun L c => ct_c4 (by omega))
  have Le := ct_in (E := E) (d := e) (B := B) (J := 19) (as := []) (x := .inl (2, mm_new.getD 2 [])) (cells := fun p => ct_led B p) (f := fun c => (c.1 + 1 + 1, c.2 + 41 + 41)) (fun L c => ct_c19 (by omega))
  have Te := fun a1 a2 => ct_in (E := E) (d := e) (B := B) (J := 78) (as := [.ref a1, .ref a2]) (x := .inl (6, mm_new.getD 6 [])) (cells := fun p => ct_tel a1 a2) (f := fun c => c) (fun L c => ct_c78 (by omega) a1 a2)
  have Qu := fun a1 a2 => ct_in (E := E) (d := e) (B := B) (J := 62) (as := [.ref a1, .ref a2]) (x := .inl (4, mm_new.getD 4 [])) (cells := fun p => ct_que B a1 a2 p) (f := fun c => (c.1 + 1 + 1, c.2 + 200 + 64)) (fun L c => ct_c62 (by omega) a1 a2)
  rw [mm_e101_0, ct_alR, T, mm_cV_ok, ct_pF _ _ _ _ _ _ _ _ _ rfl, ct_alR, N, mm_cV_ok, ct_pF _ _ _ _ _ _ _ _ _ rfl, ct_alR, N, mm_cV_ok, ct_pF _ _ _ _ _ _ _ _ _ rfl, ct_alR, N, mm_cV_ok, ct_pF _ _ _ _ _ _ _ _ _ rfl]
  rw [mm_e101_48, ct_alR, A, mm_cV_ok, ct_pF _ _ _ _ _ _ _ _ _ rfl, ct_alR, Be, mm_cV_ok, ct_pF _ _ _ _ _ _ _ _ _ rfl, ct_alR, Le, mm_cV_ok, ct_pF _ _ _ _ _ _ _ _ _ rfl]
  rw [mm_e101_81, ct_alR, ct_gR B [] _ _ 8 0 _ _ _ rfl, ct_gR B [] _ _ 8 2 _ _ _ rfl, Te, mm_cV_ok, ct_pF _ _ _ _ _ _ _ _ _ rfl, ct_alR, ct_gR B [] _ _ 8 0 _ _ _ rfl, ct_gR B [] _ _ 8 1 _ _ _ rfl, Qu, mm_cV_ok, ct_pF _ _ _ _ _ _ _ _ _ rfl, ct_nn (by omega) (by omega), ct_alR, ct_pF _ _ _ _ _ _ _ _ _ rfl]
  rw [mm_e101_127, ct_pF _ _ _ _ _ _ _ _ _ rfl, ct_pF _ _ _ _ _ _ _ _ _ rfl, mm_bz0, ct_pF _ _ _ _ _ _ _ _ _ rfl, ct_pF _ _ _ _ _ _ _ _ _ rfl]
  rfl
theorem ct_wI (B : Nat) (L : List mm_C) (o : mm_C) (R : List mm_C) (c : Nat × Nat) (n : Nat) (f : Nat → Int32) (i : Int) (v : Int32) (κ : mm_H → mm_R) (i0 : 0 ≤ i) (i1 : i < n) (hn : n ≤ 2147483647) : mm_wI (ct_h B (L ++ o :: (.inr (.inl (n, f)) :: R)) c) (B + (L.length + 1)) (mm_i i) v κ = κ (ct_h B (L ++ o :: (.inr (.inl (n, upd f i.toNat v)) :: R)) c) := by
  have e : (L ++ o :: (.inr (.inl (n, f)) :: R))[L.length + 1]? = some (.inr (.inl (n, f))) := by
    rw [List.getElem?_append_right (by omega), show L.length + 1 - L.length = 1 by omega]
    rfl
  have e2 : (L ++ o :: (.inr (.inl (n, f)) :: R)).set (L.length + 1) (.inr (.inl (n, upd f i.toNat v))) = L ++ o :: (.inr (.inl (n, upd f i.toNat v)) :: R) := by
    rw [List.set_append_right _ _ (by omega), show L.length + 1 - L.length = 1 by omega]
    rfl
  unfold mm_wI
  rw [ct_at, e]
  show (if mm_i i < 0 ∨ n ≤ (mm_i i).toNatClampNeg then none else κ (mm_up (ct_h B (L ++ o :: (.inr (.inl (n, f)) :: R)) c) (B + (L.length + 1)) (.inr (.inl (n, upd f (mm_i i).toNatClampNeg v))))) = _
  rw [if_neg (mm_ix i0 i1 hn), mm_i_nat i0 (by omega), ct_up (ct_lt e), e2]
theorem ct_u0 (k : Nat) : upd (fun _ => 0) k (mm_i 0) = fun _ => 0 := by
  funext j
  unfold upd
  by_cases q : j = k
  · rw [if_pos q]; rfl
  · rw [if_neg q]
theorem ct_L149 (o : mm_C) (R : List mm_C) {cl : mm_F} : ∀ (j k n : Nat), k + j = 190 → j < n → mm_r149_2 E cl n (B + (L.length + 1)) (mm_i (k : Int)) (ct_h B (L ++ o :: (ct_I 190 :: R)) c) = mm_oV (ct_h B (L ++ o :: (.inr (.inl (190, upd (fun _ => 0) 1 (mm_i 165))) :: R)) c)
  | 0, k, n, hk, hn => by
    obtain ⟨n, rfl⟩ : ∃ m, n = m + 1 := ⟨n - 1, by omega⟩
    rw [mm_e149_2, mm_br_le (by omega) (by omega) (by omega) (by omega), if_pos (by omega), ct_wI _ _ _ _ _ _ _ _ _ _ (by omega) (by omega) (by omega)]
    rfl
  | j + 1, k, n, hk, hn => by
    obtain ⟨n, rfl⟩ : ∃ m, n = m + 1 := ⟨n - 1, by omega⟩
    have ih := ct_L149 o R (cl := cl) j (k + 1) n (by omega) (by omega)
    rw [Int.natCast_add, Int.natCast_one] at ih
    rw [mm_e149_2, mm_br_le (by omega) (by omega) (by omega) (by omega), if_neg (by omega), ct_wI _ _ _ _ _ _ _ _ _ _ (by omega) (by omega) (by omega), ct_u0]
    simp only [mm_hm]
    exact ih
theorem ct_c149 (hd : 1 ≤ d) (o : mm_C) (R : List mm_C) : mm_ev E d 149 [.ref (B + (L.length + 1))] (ct_h B (L ++ o :: (ct_I 190 :: R)) c) = mm_oV (ct_h B (L ++ o :: (.inr (.inl (190, upd (fun _ => 0) 1 (mm_i 165))) :: R)) c) := by
  refine mm_ev_go hd rfl rfl (fun F e hF he => ?_)
  show mm_r149_0 E (mm_ev E e) (F + 100) (B + (L.length + 1)) _ = _
  rw [mm_e149_0]
  exact ct_L149 o R 190 0 (F + 99) (by omega) (by omega)
def ct_mo (B p : Nat) : mm_C := .inl (9, [.int 0, .ref (B + (p + 1)), .ref (B + (p + 2)), .ref (B + (p + 3)), .int 0, .ref (B + (p + 4)), .ref (B + (p + 5)), .ref (B + (p + 6)), .ref (B + (p + 7)), .ref (B + (p + 8)), .ref (B + (p + 9)), .ref (B + (p + 10)), .ref (B + (p + 11)), .ref (B + (p + 12)), .ref (B + (p + 13)), .int 0, .ref (B + (p + 14)), .ref (B + (p + 15)), .int 0, .ref (B + (p + 16)), .ref (B + (p + 17)), .ref (B + (p + 18)), .ref (B + (p + 19)), .ref (B + (p + 20)), .int 0, .ref (B + (p + 21)), .int 0, .int 0, .int 0, .int 0, .int 0, .int 0, .int 0, .int 0, .int (mm_i (-1)), .int 0, .int 0, .int 0, .int 0])
def ct_mR : List mm_C := [ct_I 190, ct_I 3800, ct_I 12, ct_I 480, ct_I 12, ct_I 1440, ct_I 1440, ct_I 120, ct_I 120, ct_I 120, ct_I 120, ct_I 2880, ct_I 12, ct_I 12, ct_I 40, ct_I 41, ct_I 190, ct_I 12, ct_I 480, ct_I 400]
def ct_mod (B p : Nat) : List mm_C := ct_mo B p :: (.inr (.inl (190, upd (fun _ => 0) 1 (mm_i 165))) :: ct_mR)
def ct_mc (c : Nat × Nat) : Nat × Nat := ct_a 400 (ct_a 480 (ct_a 12 (ct_a 190 (ct_a 41 (ct_a 40 (ct_a 12 (ct_a 12 (ct_a 2880 (ct_a 120 (ct_a 120 (ct_a 120 (ct_a 120 (ct_a 1440 (ct_a 1440 (ct_a 12 (ct_a 480 (ct_a 12 (ct_a 3800 (ct_a 190 (ct_a 190 c))))))))))))))))))))
theorem ct_c148 (hd : 2 ≤ d) : mm_ev E d 148 [.ref (B + L.length)] (ct_h B (L ++ [.inl (9, mm_new.getD 9 [])]) c) = mm_oV (ct_h B (L ++ ct_mod B L.length) (ct_mc c)) := by
  refine mm_ev_go (by omega) (ct_rok rfl) rfl (fun F e hF he => ?_)
  show mm_r148_0 E (mm_ev E e) (F + 100) (B + L.length) _ = _
  rw [mm_e148_0, ct_nn (by omega) (by omega), ct_alR, ct_pF _ _ _ _ _ _ _ _ _ rfl, ct_nn (by omega) (by omega), ct_alR, ct_pF _ _ _ _ _ _ _ _ _ rfl, ct_nn (by omega) (by omega), ct_alR, ct_pF _ _ _ _ _ _ _ _ _ rfl, ct_nn (by omega) (by omega), ct_alR, ct_pF _ _ _ _ _ _ _ _ _ rfl, ct_nn (by omega) (by omega), ct_alR, ct_pF _ _ _ _ _ _ _ _ _ rfl]
  show mm_r148_48 E (mm_ev E e) (F + 99) (B + L.length) (ct_h B (L ++ Sum.inl (9, [.int 0, .ref (B + (L.length + 1)), .ref (B + (L.length + 2)), .ref (B + (L.length + 3)), .int 0, .ref (B + (L.length + 4)), .ref (B + (L.length + 5)), .null, .null, .null, .null, .null, .null, .null, .null, .int 0, .null, .null, .int 0, .null, .null, .null, .null, .null, .int 0, .null, .int 0, .int 0, .int 0, .int 0, .int 0, .int 0, .int 0, .int 0, .int 0, .int 0, .int 0, .int 0, .int 0]) :: [ct_I 190, ct_I 190, ct_I 3800, ct_I 12, ct_I 480]) (ct_a 480 (ct_a 12 (ct_a 3800 (ct_a 190 (ct_a 190 c)))))) = _
  rw [mm_e148_48, ct_nn (by omega) (by omega), ct_alR, ct_pF _ _ _ _ _ _ _ _ _ rfl, ct_nn (by omega) (by omega), ct_alR, ct_pF _ _ _ _ _ _ _ _ _ rfl, ct_nn (by omega) (by omega), ct_alR, ct_pF _ _ _ _ _ _ _ _ _ rfl, ct_nn (by omega) (by omega), ct_alR, ct_pF _ _ _ _ _ _ _ _ _ rfl, ct_nn (by omega) (by omega), ct_alR, ct_pF _ _ _ _ _ _ _ _ _ rfl]
  show mm_r148_90 E (mm_ev E e) (F + 98) (B + L.length) (ct_h B (L ++ Sum.inl (9, [.int 0, .ref (B + (L.length + 1)), .ref (B + (L.length + 2)), .ref (B + (L.length + 3)), .int 0, .ref (B + (L.length + 4)), .ref (B + (L.length + 5)), .ref (B + (L.length + 6)), .ref (B + (L.length + 7)), .ref (B + (L.length + 8)), .ref (B + (L.length + 9)), .ref (B + (L.length + 10)), .null, .null, .null, .int 0, .null, .null, .int 0, .null, .null, .null, .null, .null, .int 0, .null, .int 0, .int 0, .int 0, .int 0, .int 0, .int 0, .int 0, .int 0, .int 0, .int 0, .int 0, .int 0, .int 0]) :: [ct_I 190, ct_I 190, ct_I 3800, ct_I 12, ct_I 480, ct_I 12, ct_I 1440, ct_I 1440, ct_I 120, ct_I 120]) (ct_a 120 (ct_a 120 (ct_a 1440 (ct_a 1440 (ct_a 12 (ct_a 480 (ct_a 12 (ct_a 3800 (ct_a 190 (ct_a 190 c))))))))))) = _
  rw [mm_e148_90, ct_nn (by omega) (by omega), ct_alR, ct_pF _ _ _ _ _ _ _ _ _ rfl, ct_nn (by omega) (by omega), ct_alR, ct_pF _ _ _ _ _ _ _ _ _ rfl, ct_nn (by omega) (by omega), ct_alR, ct_pF _ _ _ _ _ _ _ _ _ rfl, ct_nn (by omega) (by omega), ct_alR, ct_pF _ _ _ _ _ _ _ _ _ rfl, ct_nn (by omega) (by omega), ct_alR, ct_pF _ _ _ _ _ _ _ _ _ rfl]
  show mm_r148_131 E (mm_ev E e) (F + 97) (B + L.length) (ct_h B (L ++ Sum.inl (9, [.int 0, .ref (B + (L.length + 1)), .ref (B + (L.length + 2)), .ref (B + (L.length + 3)), .int 0, .ref (B + (L.length + 4)), .ref (B + (L.length + 5)), .ref (B + (L.length + 6)), .ref (B + (L.length + 7)), .ref (B + (L.length + 8)), .ref (B + (L.length + 9)), .ref (B + (L.length + 10)), .ref (B + (L.length + 11)), .ref (B + (L.length + 12)), .ref (B + (L.length + 13)), .int 0, .ref (B + (L.length + 14)), .ref (B + (L.length + 15)), .int 0, .null, .null, .null, .null, .null, .int 0, .null, .int 0, .int 0, .int 0, .int 0, .int 0, .int 0, .int 0, .int 0, .int 0, .int 0, .int 0, .int 0, .int 0]) :: [ct_I 190, ct_I 190, ct_I 3800, ct_I 12, ct_I 480, ct_I 12, ct_I 1440, ct_I 1440, ct_I 120, ct_I 120, ct_I 120, ct_I 120, ct_I 2880, ct_I 12, ct_I 12]) (ct_a 12 (ct_a 12 (ct_a 2880 (ct_a 120 (ct_a 120 (ct_a 120 (ct_a 120 (ct_a 1440 (ct_a 1440 (ct_a 12 (ct_a 480 (ct_a 12 (ct_a 3800 (ct_a 190 (ct_a 190 c)))))))))))))))) = _
  rw [mm_e148_131, ct_nn (by omega) (by omega), ct_alR, ct_pF _ _ _ _ _ _ _ _ _ rfl, ct_nn (by omega) (by omega), ct_alR, ct_pF _ _ _ _ _ _ _ _ _ rfl, ct_nn (by omega) (by omega), ct_alR, ct_pF _ _ _ _ _ _ _ _ _ rfl, ct_nn (by omega) (by omega), ct_alR, ct_pF _ _ _ _ _ _ _ _ _ rfl, ct_nn (by omega) (by omega), ct_alR, ct_pF _ _ _ _ _ _ _ _ _ rfl]
  show mm_r148_173 E (mm_ev E e) (F + 96) (B + L.length) (ct_h B (L ++ Sum.inl (9, [.int 0, .ref (B + (L.length + 1)), .ref (B + (L.length + 2)), .ref (B + (L.length + 3)), .int 0, .ref (B + (L.length + 4)), .ref (B + (L.length + 5)), .ref (B + (L.length + 6)), .ref (B + (L.length + 7)), .ref (B + (L.length + 8)), .ref (B + (L.length + 9)), .ref (B + (L.length + 10)), .ref (B + (L.length + 11)), .ref (B + (L.length + 12)), .ref (B + (L.length + 13)), .int 0, .ref (B + (L.length + 14)), .ref (B + (L.length + 15)), .int 0, .ref (B + (L.length + 16)), .ref (B + (L.length + 17)), .ref (B + (L.length + 18)), .ref (B + (L.length + 19)), .ref (B + (L.length + 20)), .int 0, .null, .int 0, .int 0, .int 0, .int 0, .int 0, .int 0, .int 0, .int 0, .int 0, .int 0, .int 0, .int 0, .int 0]) :: [ct_I 190, ct_I 190, ct_I 3800, ct_I 12, ct_I 480, ct_I 12, ct_I 1440, ct_I 1440, ct_I 120, ct_I 120, ct_I 120, ct_I 120, ct_I 2880, ct_I 12, ct_I 12, ct_I 40, ct_I 41, ct_I 190, ct_I 12, ct_I 480]) (ct_a 480 (ct_a 12 (ct_a 190 (ct_a 41 (ct_a 40 (ct_a 12 (ct_a 12 (ct_a 2880 (ct_a 120 (ct_a 120 (ct_a 120 (ct_a 120 (ct_a 1440 (ct_a 1440 (ct_a 12 (ct_a 480 (ct_a 12 (ct_a 3800 (ct_a 190 (ct_a 190 c))))))))))))))))))))) = _
  rw [mm_e148_173, ct_nn (by omega) (by omega), ct_alR, ct_pF _ _ _ _ _ _ _ _ _ rfl, ct_pF _ _ _ _ _ _ _ _ _ rfl, ct_gR B L _ _ 9 1 _ _ _ rfl]
  show mm_cV [] (mm_ev E e 149 [.ref (B + (L.length + 1))] (ct_h B (L ++ ct_mo B L.length :: (ct_I 190 :: ct_mR)) (ct_mc c))) (fun h => some (.inl none, h)) = _
  rw [ct_c149 (by omega), mm_cV_ok]
  rfl
end
