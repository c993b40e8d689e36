/-! EQUATIONS of the runs, part 0 (by program: wip/whole/genpure.py) -/
-- Acts.init
noncomputable def mm_r0_0 (E : mm_E) (cl : mm_F) (n : Nat) (a0 : Nat) (h : mm_H) : mm_R := mm_run E cl mm_m0 n 0 [some (.ref a0)] [] h
set_option maxRecDepth 20000 in
set_option maxHeartbeats 4000000 in
theorem mm_e0_0 (E : mm_E) (cl : mm_F) (n : Nat) (a0 : Nat) (h : mm_H) :
  mm_r0_0 E cl (n + 1) a0 h =
  mm_nn (mm_i 20) fun k_3 => mm_al h (.inr (.inl (k_3, fun _ => 0))) k_3 fun p_1 h_2 =>
  mm_pF h_2 a0 0 0 (.ref p_1) fun h_4 =>
  mm_nn (mm_i 20) fun k_7 => mm_al h_4 (.inr (.inl (k_7, fun _ => 0))) k_7 fun p_5 h_6 =>
  mm_pF h_6 a0 0 1 (.ref p_5) fun h_8 =>
  mm_nn (mm_i 20) fun k_11 => mm_al h_8 (.inr (.inl (k_11, fun _ => 0))) k_11 fun p_9 h_10 =>
  mm_pF h_10 a0 0 2 (.ref p_9) fun h_12 =>
  mm_pF h_12 a0 0 3 (.int (mm_i 0)) fun h_13 =>
  mm_pF h_13 a0 0 4 (.int (mm_i 0)) fun h_14 =>
  some (.inl none, h_14) := (rfl)
-- Acts.note
noncomputable def mm_r1_0 (E : mm_E) (cl : mm_F) (n : Nat) (a0 : Nat) (x1 : Int32) (x2 : Int32) (x3 : Int32) (h : mm_H) : mm_R := mm_run E cl mm_m1 n 0 [some (.ref a0), some (.int x1), some (.int x2), some (.int x3)] [] h
noncomputable def mm_r1_30 (E : mm_E) (cl : mm_F) (n : Nat) (a0 : Nat) (x1 : Int32) (x2 : Int32) (x3 : Int32) (h : mm_H) : mm_R := mm_run E cl mm_m1 n 30 [some (.ref a0), some (.int x1), some (.int x2), some (.int x3)] [] h
set_option maxRecDepth 20000 in
set_option maxHeartbeats 4000000 in
theorem mm_e1_0 (E : mm_E) (cl : mm_F) (n : Nat) (a0 : Nat) (x1 : Int32) (x2 : Int32) (x3 : Int32) (h : mm_H) :
  mm_r1_0 E cl (n + 1) a0 x1 x2 x3 h =
  mm_gR h a0 0 0 fun p_1 =>
  mm_gI h a0 0 4 fun v_2 =>
  mm_wI h p_1 v_2 x1 fun h_3 =>
  mm_gR h_3 a0 0 1 fun p_4 =>
  mm_gI h_3 a0 0 4 fun v_5 =>
  mm_wI h_3 p_4 v_5 x2 fun h_6 =>
  mm_gR h_6 a0 0 2 fun p_7 =>
  mm_gI h_6 a0 0 4 fun v_8 =>
  mm_wI h_6 p_7 v_8 x3 fun h_9 =>
  mm_r1_30 E cl n a0 x1 x2 x3 h_9 := (rfl)
set_option maxRecDepth 20000 in
set_option maxHeartbeats 4000000 in
theorem mm_e1_30 (E : mm_E) (cl : mm_F) (n : Nat) (a0 : Nat) (x1 : Int32) (x2 : Int32) (x3 : Int32) (h : mm_H) :
  mm_r1_30 E cl (n + 1) a0 x1 x2 x3 h =
  mm_gI h a0 0 4 fun v_1 =>
  (mm_br (v_1 = (mm_i 19)) (
  mm_pF h a0 0 4 (.int (mm_i 0)) fun h_6 =>
    mm_gI h_6 a0 0 3 fun v_7 =>
    mm_pF h_6 a0 0 3 (.int (mm_mn (v_7 + (mm_i 1)) (mm_i 20))) fun h_8 =>
    some (.inl none, h_8)) (
  mm_gI h a0 0 4 fun v_2 =>
    mm_pF h a0 0 4 (.int (v_2 + (mm_i 1))) fun h_3 =>
    mm_gI h_3 a0 0 3 fun v_4 =>
    mm_pF h_3 a0 0 3 (.int (mm_mn (v_4 + (mm_i 1)) (mm_i 20))) fun h_5 =>
    some (.inl none, h_5))) := (rfl)
-- Acts.takeLatest
noncomputable def mm_r2_0 (E : mm_E) (cl : mm_F) (n : Nat) (a0 : Nat) (h : mm_H) : mm_R := mm_run E cl mm_m2 n 0 [some (.ref a0)] [] h
set_option maxRecDepth 20000 in
set_option maxHeartbeats 4000000 in
theorem mm_e2_0 (E : mm_E) (cl : mm_F) (n : Nat) (a0 : Nat) (h : mm_H) :
  mm_r2_0 E cl (n + 1) a0 h =
  mm_gI h a0 0 4 fun v_1 =>
  (mm_br (v_1 = (mm_i 0)) (
  mm_pF h a0 0 4 (.int (mm_i 19)) fun h_7 =>
    mm_gI h_7 a0 0 3 fun v_8 =>
    mm_pF h_7 a0 0 3 (.int (mm_mx (v_8 - (mm_i 1)) (mm_i 0))) fun h_9 =>
    mm_gI h_9 a0 0 4 fun v_10 =>
    some (.inl (some (.int v_10)), h_9)) (
  mm_gI h a0 0 4 fun v_2 =>
    mm_pF h a0 0 4 (.int (v_2 - (mm_i 1))) fun h_3 =>
    mm_gI h_3 a0 0 3 fun v_4 =>
    mm_pF h_3 a0 0 3 (.int (mm_mx (v_4 - (mm_i 1)) (mm_i 0))) fun h_5 =>
    mm_gI h_5 a0 0 4 fun v_6 =>
    some (.inl (some (.int v_6)), h_5))) := (rfl)
-- Acts.forget
noncomputable def mm_r3_0 (E : mm_E) (cl : mm_F) (n : Nat) (a0 : Nat) (h : mm_H) : mm_R := mm_run E cl mm_m3 n 0 [some (.ref a0)] [] h
set_option maxRecDepth 20000 in
set_option maxHeartbeats 4000000 in
theorem mm_e3_0 (E : mm_E) (cl : mm_F) (n : Nat) (a0 : Nat) (h : mm_H) :
  mm_r3_0 E cl (n + 1) a0 h =
  mm_pF h a0 0 3 (.int (mm_i 0)) fun h_1 =>
  some (.inl none, h_1) := (rfl)
-- Best.init
noncomputable def mm_r4_0 (E : mm_E) (cl : mm_F) (n : Nat) (a0 : Nat) (h : mm_H) : mm_R := mm_run E cl mm_m4 n 0 [some (.ref a0), none] [] h
noncomputable def mm_r4_39 (E : mm_E) (cl : mm_F) (n : Nat) (a0 : Nat) (o1 : Option Value) (h : mm_H) : mm_R := mm_run E cl mm_m4 n 39 [some (.ref a0), o1] [] h
noncomputable def mm_r4_80 (E : mm_E) (cl : mm_F) (n : Nat) (a0 : Nat) (o1 : Option Value) (h : mm_H) : mm_R := mm_run E cl mm_m4 n 80 [some (.ref a0), o1] [] h
noncomputable def mm_r4_100 (E : mm_E) (cl : mm_F) (n : Nat) (a0 : Nat) (x1 : Int32) (h : mm_H) : mm_R := mm_run E cl mm_m4 n 100 [some (.ref a0), some (.int x1)] [] h
set_option maxRecDepth 20000 in
set_option maxHeartbeats 4000000 in
theorem mm_e4_0 (E : mm_E) (cl : mm_F) (n : Nat) (a0 : Nat) (h : mm_H) :
  mm_r4_0 E cl (n + 1) a0 h =
  mm_nn (mm_i 12) fun k_3 => mm_al h (.inr (.inr (.inr (k_3, fun _ => none)))) k_3 fun p_1 h_2 =>
  mm_pF h_2 a0 1 0 (.ref p_1) fun h_4 =>
  mm_al h_4 (.inl (5, mm_new.getD 5 [])) (mm_new.getD 5 []).length fun p_5 h_6 =>
  mm_cV [] (cl 75 [.ref p_5, .int (mm_i 120)] h_6) fun h_7 =>
  mm_pF h_7 a0 1 1 (.ref p_5) fun h_8 =>
  mm_al h_8 (.inl (5, mm_new.getD 5 [])) (mm_new.getD 5 []).length fun p_9 h_10 =>
  mm_cV [] (cl 75 [.ref p_9, .int (mm_i 120)] h_10) fun h_11 =>
  mm_pF h_11 a0 1 2 (.ref p_9) fun h_12 =>
  mm_r4_39 E cl n a0 none h_12 := (rfl)
set_option maxRecDepth 20000 in
set_option maxHeartbeats 4000000 in
theorem mm_e4_39 (E : mm_E) (cl : mm_F) (n : Nat) (a0 : Nat) (o1 : Option Value) (h : mm_H) :
  mm_r4_39 E cl (n + 1) a0 o1 h =
  mm_al h (.inl (5, mm_new.getD 5 [])) (mm_new.getD 5 []).length fun p_1 h_2 =>
  mm_cV [] (cl 75 [.ref p_1, .int (mm_i 120)] h_2) fun h_3 =>
  mm_pF h_3 a0 1 3 (.ref p_1) fun h_4 =>
  mm_al h_4 (.inl (5, mm_new.getD 5 [])) (mm_new.getD 5 []).length fun p_5 h_6 =>
  mm_cV [] (cl 75 [.ref p_5, .int (mm_i 1)] h_6) fun h_7 =>
  mm_pF h_7 a0 1 4 (.ref p_5) fun h_8 =>
  mm_nn (mm_i 120) fun k_11 => mm_al h_8 (.inr (.inr (.inl (k_11, fun _ => 0)))) k_11 fun p_9 h_10 =>
  mm_pF h_10 a0 1 5 (.ref p_9) fun h_12 =>
  mm_nn (mm_i 12) fun k_15 => mm_al h_12 (.inr (.inl (k_15, fun _ => 0))) k_15 fun p_13 h_14 =>
  mm_pF h_14 a0 1 6 (.ref p_13) fun h_16 =>
  mm_r4_80 E cl n a0 o1 h_16 := (rfl)
set_option maxRecDepth 20000 in
set_option maxHeartbeats 4000000 in
theorem mm_e4_80 (E : mm_E) (cl : mm_F) (n : Nat) (a0 : Nat) (o1 : Option Value) (h : mm_H) :
  mm_r4_80 E cl (n + 1) a0 o1 h =
  mm_nn (mm_i 12) fun k_3 => mm_al h (.inr (.inl (k_3, fun _ => 0))) k_3 fun p_1 h_2 =>
  mm_pF h_2 a0 1 7 (.ref p_1) fun h_4 =>
  mm_pF h_4 a0 1 8 (.long (mm_j 0)) fun h_5 =>
  mm_pF h_5 a0 1 9 (.long (mm_j 0)) fun h_6 =>
  mm_r4_100 E cl n a0 (mm_i 0) h_6 := (rfl)
set_option maxRecDepth 20000 in
set_option maxHeartbeats 4000000 in
theorem mm_e4_100 (E : mm_E) (cl : mm_F) (n : Nat) (a0 : Nat) (x1 : Int32) (h : mm_H) :
  mm_r4_100 E cl (n + 1) a0 x1 h =
  (mm_br ((mm_i 12) ≤ x1) (
  some (.inl none, h)) (
  mm_gR h a0 1 0 fun p_1 =>
    mm_al h (.inl (5, mm_new.getD 5 [])) (mm_new.getD 5 []).length fun p_2 h_3 =>
    mm_cV [] (cl 75 [.ref p_2, .int (mm_i 120)] h_3) fun h_4 =>
    mm_wR h_4 p_1 x1 p_2 fun h_5 =>
    mm_r4_100 E cl n a0 (x1 + (mm_i 1)) h_5)) := (rfl)
-- Best.leastPrice
noncomputable def mm_r5_0 (E : mm_E) (cl : mm_F) (n : Nat) (a0 : Nat) (a1 : Nat) (h : mm_H) : mm_R := mm_run E cl mm_m5 n 0 [some (.ref a0), some (.ref a1), none, none] [] h
noncomputable def mm_r5_22 (E : mm_E) (cl : mm_F) (n : Nat) (a0 : Nat) (a1 : Nat) (x2 : Int32) (o3 : Option Value) (h : mm_H) : mm_R := mm_run E cl mm_m5 n 22 [some (.ref a0), some (.ref a1), some (.int x2), o3] [] h
noncomputable def mm_r5_49 (E : mm_E) (cl : mm_F) (n : Nat) (a0 : Nat) (a1 : Nat) (x2 : Int32) (x3 : Int32) (h : mm_H) : mm_R := mm_run E cl mm_m5 n 49 [some (.ref a0), some (.ref a1), some (.int x2), some (.int x3)] [] h
set_option maxRecDepth 20000 in
set_option maxHeartbeats 4000000 in
theorem mm_e5_0 (E : mm_E) (cl : mm_F) (n : Nat) (a0 : Nat) (a1 : Nat) (h : mm_H) :
  mm_r5_0 E cl (n + 1) a0 a1 h =
  mm_pF h a0 1 8 (.long (mm_j 0)) fun h_1 =>
  mm_pF h_1 a0 1 9 (.long (mm_j 0)) fun h_2 =>
  mm_cV [] (cl 8 [.ref a0, .ref a1] h_2) fun h_3 =>
  mm_gI h_3 a1 3 10 fun v_4 =>
  mm_r5_22 E cl n a0 a1 (v_4 - (mm_i 1)) none h_3 := (rfl)
set_option maxRecDepth 20000 in
set_option maxHeartbeats 4000000 in
theorem mm_e5_22 (E : mm_E) (cl : mm_F) (n : Nat) (a0 : Nat) (a1 : Nat) (x2 : Int32) (o3 : Option Value) (h : mm_H) :
  mm_r5_22 E cl (n + 1) a0 a1 x2 o3 h =
  (mm_br (x2 < (mm_i 0)) (
  mm_gJ h a0 1 8 fun w_1 =>
    (mm_br ((mm_i 0) ≤ (lg_cmp w_1 (mm_j 288230376151711744))) (
    some (.inl (some (.int (mm_i (-1)))), h)) (
    mm_gJ h a0 1 8 fun w_2 =>
      some (.inl (some (.int (Int64.toInt32 (w_2 >>> (Int32.toInt64 (mm_i 28) &&& 63))))), h)))) (
  mm_gR h a0 1 6 fun p_3 =>
    mm_rI E h p_3 x2 fun v_4 =>
    mm_cV [] (cl 10 [.ref a0, .ref a1, .int v_4] h) fun h_5 =>
    mm_gR h_5 a0 1 7 fun p_6 =>
    mm_rI E h_5 p_6 v_4 fun v_7 =>
    (mm_br (v_7 = (mm_i (-1))) (
    mm_r5_49 E cl n a0 a1 x2 v_4 h_5) (
    mm_r5_22 E cl n a0 a1 (x2 + (mm_i (-1))) (some (.int v_4)) h_5)))) := (rfl)
set_option maxRecDepth 20000 in
set_option maxHeartbeats 4000000 in
theorem mm_e5_49 (E : mm_E) (cl : mm_F) (n : Nat) (a0 : Nat) (a1 : Nat) (x2 : Int32) (x3 : Int32) (h : mm_H) :
  mm_r5_49 E cl (n + 1) a0 a1 x2 x3 h =
  mm_gR h a0 1 0 fun p_1 =>
  mm_rR h p_1 x3 fun p_2 =>
  mm_gR h a1 3 9 fun p_3 =>
  mm_rI E h p_3 x3 fun v_4 =>
  mm_cV [] (cl 18 [.ref a0, .ref p_2, .int v_4] h) fun h_5 =>
  mm_r5_22 E cl n a0 a1 (x2 + (mm_i (-1))) (some (.int x3)) h_5 := (rfl)
-- Best.timeOf
noncomputable def mm_r6_0 (E : mm_E) (cl : mm_F) (n : Nat) (a0 : Nat) (x1 : Int32) (h : mm_H) : mm_R := mm_run E cl mm_m6 n 0 [some (.ref a0), some (.int x1)] [] h
set_option maxRecDepth 20000 in
set_option maxHeartbeats 4000000 in
theorem mm_e6_0 (E : mm_E) (cl : mm_F) (n : Nat) (a0 : Nat) (x1 : Int32) (h : mm_H) :
  mm_r6_0 E cl (n + 1) a0 x1 h =
  (mm_br ((mm_i 4) ≤ x1) (
  mm_gJ h a0 1 9 fun w_1 =>
    mm_cI [] (cl 7 [.int x1] h) fun v_3 h_2 =>
    some (.inl (some (.int (Int64.toInt32 ((w_1 >>> (Int32.toInt64 v_3 &&& 63)) &&& (mm_j 127))))), h_2)) (
  mm_gJ h a0 1 8 fun w_4 =>
    mm_cI [] (cl 7 [.int x1] h) fun v_6 h_5 =>
    some (.inl (some (.int (Int64.toInt32 ((w_4 >>> (Int32.toInt64 v_6 &&& 63)) &&& (mm_j 127))))), h_5))) := (rfl)
-- Best.shiftOf
noncomputable def mm_r7_0 (E : mm_E) (cl : mm_F) (n : Nat) (x0 : Int32) (h : mm_H) : mm_R := mm_run E cl mm_m7 n 0 [some (.int x0)] [] h
set_option maxRecDepth 20000 in
set_option maxHeartbeats 4000000 in
theorem mm_e7_0 (E : mm_E) (cl : mm_F) (n : Nat) (x0 : Int32) (h : mm_H) :
  mm_r7_0 E cl (n + 1) x0 h =
  (mm_br ((mm_i 4) ≤ x0) (
  some (.inl (some (.int ((mm_i 49) - ((mm_i 7) * (x0 - (mm_i 4)))))), h)) (
  some (.inl (some (.int ((mm_i 21) - ((mm_i 7) * x0)))), h))) := (rfl)
-- Best.walkInward
noncomputable def mm_r8_0 (E : mm_E) (cl : mm_F) (n : Nat) (a0 : Nat) (a1 : Nat) (h : mm_H) : mm_R := mm_run E cl mm_m8 n 0 [some (.ref a0), some (.ref a1), none, none, none, none, none, none] [] h
noncomputable def mm_r8_7 (E : mm_E) (cl : mm_F) (n : Nat) (a0 : Nat) (a1 : Nat) (x2 : Int32) (x3 : Int32) (x4 : Int32) (o5 : Option Value) (o6 : Option Value) (o7 : Option Value) (h : mm_H) : mm_R := mm_run E cl mm_m8 n 7 [some (.ref a0), some (.ref a1), some (.int x2), some (.int x3), some (.int x4), o5, o6, o7] [] h
noncomputable def mm_r8_33 (E : mm_E) (cl : mm_F) (n : Nat) (a0 : Nat) (a1 : Nat) (x2 : Int32) (x3 : Int32) (x4 : Int32) (o5 : Option Value) (o6 : Option Value) (o7 : Option Value) (h : mm_H) : mm_R := mm_run E cl mm_m8 n 33 [some (.ref a0), some (.ref a1), some (.int x2), some (.int x3), some (.int x4), o5, o6, o7] [] h
noncomputable def mm_r8_46 (E : mm_E) (cl : mm_F) (n : Nat) (a0 : Nat) (a1 : Nat) (x2 : Int32) (x3 : Int32) (x4 : Int32) (o5 : Option Value) (o6 : Option Value) (o7 : Option Value) (h : mm_H) : mm_R := mm_run E cl mm_m8 n 46 [some (.ref a0), some (.ref a1), some (.int x2), some (.int x3), some (.int x4), o5, o6, o7] [] h
noncomputable def mm_r8_70 (E : mm_E) (cl : mm_F) (n : Nat) (a0 : Nat) (a1 : Nat) (x2 : Int32) (x3 : Int32) (x4 : Int32) (x5 : Int32) (o6 : Option Value) (o7 : Option Value) (h : mm_H) : mm_R := mm_run E cl mm_m8 n 70 [some (.ref a0), some (.ref a1), some (.int x2), some (.int x3), some (.int x4), some (.int x5), o6, o7] [] h
noncomputable def mm_r8_94 (E : mm_E) (cl : mm_F) (n : Nat) (a0 : Nat) (a1 : Nat) (x2 : Int32) (x3 : Int32) (x4 : Int32) (x5 : Int32) (x6 : Int32) (x7 : Int32) (h : mm_H) : mm_R := mm_run E cl mm_m8 n 94 [some (.ref a0), some (.ref a1), some (.int x2), some (.int x3), some (.int x4), some (.int x5), some (.int x6), some (.int x7)] [] h
set_option maxRecDepth 20000 in
set_option maxHeartbeats 4000000 in
theorem mm_e8_0 (E : mm_E) (cl : mm_F) (n : Nat) (a0 : Nat) (a1 : Nat) (h : mm_H) :
  mm_r8_0 E cl (n + 1) a0 a1 h =
  mm_r8_7 E cl n a0 a1 (mm_i 0) (mm_i 0) (mm_i 0) none none none h := (rfl)
set_option maxRecDepth 20000 in
set_option maxHeartbeats 4000000 in
theorem mm_e8_7 (E : mm_E) (cl : mm_F) (n : Nat) (a0 : Nat) (a1 : Nat) (x2 : Int32) (x3 : Int32) (x4 : Int32) (o5 : Option Value) (o6 : Option Value) (o7 : Option Value) (h : mm_H) :
  mm_r8_7 E cl (n + 1) a0 a1 x2 x3 x4 o5 o6 o7 h =
  mm_gI h a1 3 10 fun v_1 =>
  (mm_br (v_1 ≤ x4) (
  some (.inl none, h)) (
  (mm_br (x4 = x3) (
    mm_gR h a0 1 6 fun p_4 =>
      mm_cI [] (cl 9 [.int x2] h) fun v_6 h_5 =>
      mm_wI h_5 p_4 x4 v_6 fun h_7 =>
      mm_r8_33 E cl n a0 a1 x2 x3 x4 o5 o6 o7 h_7) (
    mm_gR h a0 1 6 fun p_2 =>
      mm_rI E h p_2 x4 fun v_3 =>
      mm_r8_70 E cl n a0 a1 x2 x3 x4 v_3 o6 o7 h)))) := (rfl)
set_option maxRecDepth 20000 in
set_option maxHeartbeats 4000000 in
theorem mm_e8_33 (E : mm_E) (cl : mm_F) (n : Nat) (a0 : Nat) (a1 : Nat) (x2 : Int32) (x3 : Int32) (x4 : Int32) (o5 : Option Value) (o6 : Option Value) (o7 : Option Value) (h : mm_H) :
  mm_r8_33 E cl (n + 1) a0 a1 x2 x3 x4 o5 o6 o7 h =
  mm_gR h a0 1 7 fun p_1 =>
  mm_gR h a0 1 6 fun p_2 =>
  mm_rI E h p_2 x4 fun v_3 =>
  mm_wI h p_1 v_3 (mm_i (-1)) fun h_4 =>
  mm_r8_46 E cl n a0 a1 x2 x3 x4 o5 o6 o7 h_4 := (rfl)
set_option maxRecDepth 20000 in
set_option maxHeartbeats 4000000 in
theorem mm_e8_46 (E : mm_E) (cl : mm_F) (n : Nat) (a0 : Nat) (a1 : Nat) (x2 : Int32) (x3 : Int32) (x4 : Int32) (o5 : Option Value) (o6 : Option Value) (o7 : Option Value) (h : mm_H) :
  mm_r8_46 E cl (n + 1) a0 a1 x2 x3 x4 o5 o6 o7 h =
  mm_gR h a0 1 6 fun p_1 =>
  mm_rI E h p_1 x4 fun v_2 =>
  mm_gR h a0 1 6 fun p_3 =>
  mm_rI E h p_3 x4 fun v_4 =>
  mm_r8_70 E cl n a0 a1 (x2 ||| ((mm_i 1) <<< (v_2 &&& 31))) (x3 + (mm_i 1)) x4 v_4 o6 o7 h := (rfl)
set_option maxRecDepth 20000 in
set_option maxHeartbeats 4000000 in
theorem mm_e8_70 (E : mm_E) (cl : mm_F) (n : Nat) (a0 : Nat) (a1 : Nat) (x2 : Int32) (x3 : Int32) (x4 : Int32) (x5 : Int32) (o6 : Option Value) (o7 : Option Value) (h : mm_H) :
  mm_r8_70 E cl (n + 1) a0 a1 x2 x3 x4 x5 o6 o7 h =
  mm_gR h a1 3 2 fun p_1 =>
  mm_rI E h p_1 x5 fun v_2 =>
  mm_gR h a1 3 3 fun p_3 =>
  mm_rI E h p_3 x5 fun v_4 =>
  mm_r8_94 E cl n a0 a1 x2 x3 x4 x5 ((v_2 ||| v_4) &&& (x2 ^^^ (mm_i (-1)))) (mm_i 0) h := (rfl)
set_option maxRecDepth 20000 in
set_option maxHeartbeats 4000000 in
theorem mm_e8_94 (E : mm_E) (cl : mm_F) (n : Nat) (a0 : Nat) (a1 : Nat) (x2 : Int32) (x3 : Int32) (x4 : Int32) (x5 : Int32) (x6 : Int32) (x7 : Int32) (h : mm_H) :
  mm_r8_94 E cl (n + 1) a0 a1 x2 x3 x4 x5 x6 x7 h =
  mm_gI h a1 3 10 fun v_1 =>
  (mm_br (v_1 ≤ x7) (
  mm_r8_7 E cl n a0 a1 (x2 ||| x6) x3 (x4 + (mm_i 1)) (some (.int x5)) (some (.int x6)) (some (.int x7)) h) (
  (mm_br ((mm_i 12) ≤ x3) (
    mm_r8_94 E cl n a0 a1 x2 x3 x4 x5 x6 (x7 + (mm_i 1)) h) (
    mm_cI [] (cl 61 [.int x6, .int x7] h) fun v_3 h_2 =>
      (mm_br (v_3 = (mm_i 0)) (
      mm_r8_94 E cl n a0 a1 x2 x3 x4 x5 x6 (x7 + (mm_i 1)) h_2) (
      mm_gR h_2 a0 1 6 fun p_4 =>
        mm_wI h_2 p_4 x3 x7 fun h_5 =>
        mm_gR h_5 a0 1 7 fun p_6 =>
        mm_wI h_5 p_6 x7 x5 fun h_7 =>
        mm_r8_94 E cl n a0 a1 x2 (x3 + (mm_i 1)) x4 x5 x6 (x7 + (mm_i 1)) h_7)))))) := (rfl)
-- Best.firstNotIn
noncomputable def mm_r9_0 (E : mm_E) (cl : mm_F) (n : Nat) (x0 : Int32) (h : mm_H) : mm_R := mm_run E cl mm_m9 n 0 [some (.int x0), none] [] h
noncomputable def mm_r9_2 (E : mm_E) (cl : mm_F) (n : Nat) (x0 : Int32) (x1 : Int32) (h : mm_H) : mm_R := mm_run E cl mm_m9 n 2 [some (.int x0), some (.int x1)] [] h
set_option maxRecDepth 20000 in
set_option maxHeartbeats 4000000 in
theorem mm_e9_0 (E : mm_E) (cl : mm_F) (n : Nat) (x0 : Int32) (h : mm_H) :
  mm_r9_0 E cl (n + 1) x0 h =
  mm_r9_2 E cl n x0 (mm_i 0) h := (rfl)
set_option maxRecDepth 20000 in
set_option maxHeartbeats 4000000 in
theorem mm_e9_2 (E : mm_E) (cl : mm_F) (n : Nat) (x0 : Int32) (x1 : Int32) (h : mm_H) :
  mm_r9_2 E cl (n + 1) x0 x1 h =
  (mm_br ((mm_i 11) ≤ x1) (
  some (.inl (some (.int x1)), h)) (
  mm_cI [] (cl 61 [.int x0, .int x1] h) fun v_2 h_1 =>
    (mm_br (v_2 = (mm_i 0)) (
    some (.inl (some (.int x1)), h_1)) (
    mm_r9_2 E cl n x0 (x1 + (mm_i 1)) h_1)))) := (rfl)
-- Best.weigh
noncomputable def mm_r10_0 (E : mm_E) (cl : mm_F) (n : Nat) (a0 : Nat) (a1 : Nat) (x2 : Int32) (h : mm_H) : mm_R := mm_run E cl mm_m10 n 0 [some (.ref a0), some (.ref a1), some (.int x2), none, none] [] h
noncomputable def mm_r10_5 (E : mm_E) (cl : mm_F) (n : Nat) (a0 : Nat) (a1 : Nat) (x2 : Int32) (x3 : Int32) (x4 : Int32) (h : mm_H) : mm_R := mm_run E cl mm_m10 n 5 [some (.ref a0), some (.ref a1), some (.int x2), some (.int x3), some (.int x4)] [] h
noncomputable def mm_r10_25 (E : mm_E) (cl : mm_F) (n : Nat) (a0 : Nat) (a1 : Nat) (x2 : Int32) (x3 : Int32) (x4 : Int32) (h : mm_H) : mm_R := mm_run E cl mm_m10 n 25 [some (.ref a0), some (.ref a1), some (.int x2), some (.int x3), some (.int x4)] [] h
noncomputable def mm_r10_63 (E : mm_E) (cl : mm_F) (n : Nat) (a0 : Nat) (a1 : Nat) (x2 : Int32) (x3 : Int32) (x4 : Int32) (h : mm_H) : mm_R := mm_run E cl mm_m10 n 63 [some (.ref a0), some (.ref a1), some (.int x2), some (.int x3), some (.int x4)] [] h
noncomputable def mm_r10_73 (E : mm_E) (cl : mm_F) (n : Nat) (a0 : Nat) (a1 : Nat) (x2 : Int32) (x3 : Int32) (x4 : Int32) (h : mm_H) : mm_R := mm_run E cl mm_m10 n 73 [some (.ref a0), some (.ref a1), some (.int x2), some (.int x3), some (.int x4)] [] h
noncomputable def mm_r10_96 (E : mm_E) (cl : mm_F) (n : Nat) (a0 : Nat) (a1 : Nat) (x2 : Int32) (x3 : Int32) (x4 : Int32) (h : mm_H) : mm_R := mm_run E cl mm_m10 n 96 [some (.ref a0), some (.ref a1), some (.int x2), some (.int x3), some (.int x4)] [] h
set_option maxRecDepth 20000 in
set_option maxHeartbeats 4000000 in
theorem mm_e10_0 (E : mm_E) (cl : mm_F) (n : Nat) (a0 : Nat) (a1 : Nat) (x2 : Int32) (h : mm_H) :
  mm_r10_0 E cl (n + 1) a0 a1 x2 h =
  mm_r10_5 E cl n a0 a1 x2 (mm_i 0) (mm_i 0) h := (rfl)
set_option maxRecDepth 20000 in
set_option maxHeartbeats 4000000 in
theorem mm_e10_5 (E : mm_E) (cl : mm_F) (n : Nat) (a0 : Nat) (a1 : Nat) (x2 : Int32) (x3 : Int32) (x4 : Int32) (h : mm_H) :
  mm_r10_5 E cl (n + 1) a0 a1 x2 x3 x4 h =
  mm_gR h a1 3 9 fun p_1 =>
  mm_rI E h p_1 x2 fun v_2 =>
  (mm_br (v_2 < x4) (
  mm_cV [] (cl 11 [.ref a0, .ref a1, .int x2] h) fun h_3 =>
    mm_cV [] (cl 13 [.ref a0, .ref a1, .int x2] h_3) fun h_4 =>
    mm_r10_63 E cl n a0 a1 x2 x3 x4 h_4) (
  mm_cI [] (cl 48 [.ref a1, .int x3, .int x2, .int x4] h) fun v_6 h_5 =>
    mm_r10_25 E cl n a0 a1 x2 v_6 x4 h_5)) := (rfl)
set_option maxRecDepth 20000 in
set_option maxHeartbeats 4000000 in
theorem mm_e10_25 (E : mm_E) (cl : mm_F) (n : Nat) (a0 : Nat) (a1 : Nat) (x2 : Int32) (x3 : Int32) (x4 : Int32) (h : mm_H) :
  mm_r10_25 E cl (n + 1) a0 a1 x2 x3 x4 h =
  mm_gR h a0 1 5 fun p_1 =>
  mm_cI [] (cl 30 [.ref a1, .int x2, .int (mm_i 1)] h) fun v_3 h_2 =>
  mm_wJ h_2 p_1 x4 (((Int32.toInt64 v_3) * (Int32.toInt64 x3)) <<< (Int32.toInt64 (mm_i 28) &&& 63)) fun h_4 =>
  mm_r10_5 E cl n a0 a1 x2 x3 (x4 + (mm_i 1)) h_4 := (rfl)
set_option maxRecDepth 20000 in
set_option maxHeartbeats 4000000 in
theorem mm_e10_63 (E : mm_E) (cl : mm_F) (n : Nat) (a0 : Nat) (a1 : Nat) (x2 : Int32) (x3 : Int32) (x4 : Int32) (h : mm_H) :
  mm_r10_63 E cl (n + 1) a0 a1 x2 x3 x4 h =
  mm_gR h a0 1 7 fun p_1 =>
  mm_rI E h p_1 x2 fun v_2 =>
  (mm_br (v_2 = (mm_i (-1))) (
  mm_r10_96 E cl n a0 a1 x2 x3 x4 h) (
  mm_r10_73 E cl n a0 a1 x2 x3 x4 h)) := (rfl)
set_option maxRecDepth 20000 in
set_option maxHeartbeats 4000000 in
theorem mm_e10_73 (E : mm_E) (cl : mm_F) (n : Nat) (a0 : Nat) (a1 : Nat) (x2 : Int32) (x3 : Int32) (x4 : Int32) (h : mm_H) :
  mm_r10_73 E cl (n + 1) a0 a1 x2 x3 x4 h =
  mm_gR h a0 1 7 fun p_1 =>
  mm_rI E h p_1 x2 fun v_2 =>
  mm_cI [] (cl 32 [.ref a1, .int v_2, .int x2] h) fun v_4 h_3 =>
  (mm_br (v_4 = (mm_i 0)) (
  mm_r10_96 E cl n a0 a1 x2 x3 x4 h_3) (
  mm_cV [] (cl 16 [.ref a0, .ref a1, .int x2] h_3) fun h_5 =>
    some (.inl none, h_5))) := (rfl)
set_option maxRecDepth 20000 in
set_option maxHeartbeats 4000000 in
theorem mm_e10_96 (E : mm_E) (cl : mm_F) (n : Nat) (a0 : Nat) (a1 : Nat) (x2 : Int32) (x3 : Int32) (x4 : Int32) (h : mm_H) :
  mm_r10_96 E cl (n + 1) a0 a1 x2 x3 x4 h =
  mm_cV [] (cl 14 [.ref a0, .ref a1, .int x2] h) fun h_1 =>
  some (.inl none, h_1) := (rfl)
-- Best.weighSuppliers
noncomputable def mm_r11_0 (E : mm_E) (cl : mm_F) (n : Nat) (a0 : Nat) (a1 : Nat) (x2 : Int32) (h : mm_H) : mm_R := mm_run E cl mm_m11 n 0 [some (.ref a0), some (.ref a1), some (.int x2), none, none, none] [] h
noncomputable def mm_r11_25 (E : mm_E) (cl : mm_F) (n : Nat) (a0 : Nat) (a1 : Nat) (x2 : Int32) (x3 : Int32) (x4 : Int32) (x5 : Int32) (h : mm_H) : mm_R := mm_run E cl mm_m11 n 25 [some (.ref a0), some (.ref a1), some (.int x2), some (.int x3), some (.int x4), some (.int x5)] [] h
noncomputable def mm_r11_55 (E : mm_E) (cl : mm_F) (n : Nat) (a0 : Nat) (a1 : Nat) (x2 : Int32) (x3 : Int32) (x4 : Int32) (x5 : Int32) (h : mm_H) : mm_R := mm_run E cl mm_m11 n 55 [some (.ref a0), some (.ref a1), some (.int x2), some (.int x3), some (.int x4), some (.int x5)] [] h
noncomputable def mm_r11_87 (E : mm_E) (cl : mm_F) (n : Nat) (a0 : Nat) (a1 : Nat) (x2 : Int32) (x3 : Int32) (x4 : Int32) (x5 : Int32) (h : mm_H) : mm_R := mm_run E cl mm_m11 n 87 [some (.ref a0), some (.ref a1), some (.int x2), some (.int x3), some (.int x4), some (.int x5)] [] h
noncomputable def mm_r11_117 (E : mm_E) (cl : mm_F) (n : Nat) (a0 : Nat) (a1 : Nat) (x2 : Int32) (x3 : Int32) (x4 : Int32) (x5 : Int32) (h : mm_H) : mm_R := mm_run E cl mm_m11 n 117 [some (.ref a0), some (.ref a1), some (.int x2), some (.int x3), some (.int x4), some (.int x5)] [] h
set_option maxRecDepth 20000 in
set_option maxHeartbeats 4000000 in
theorem mm_e11_0 (E : mm_E) (cl : mm_F) (n : Nat) (a0 : Nat) (a1 : Nat) (x2 : Int32) (h : mm_H) :
  mm_r11_0 E cl (n + 1) a0 a1 x2 h =
  mm_cI [] (cl 30 [.ref a1, .int x2, .int (mm_i 2)] h) fun v_2 h_1 =>
  mm_gR h_1 a1 3 9 fun p_3 =>
  mm_rI E h_1 p_3 x2 fun v_4 =>
  mm_cI [] (cl 30 [.ref a1, .int x2, .int (mm_i 0)] h_1) fun v_6 h_5 =>
  mm_r11_25 E cl n a0 a1 x2 v_2 (v_4 - v_6) (mm_i 0) h_5 := (rfl)
set_option maxRecDepth 20000 in
set_option maxHeartbeats 4000000 in
theorem mm_e11_25 (E : mm_E) (cl : mm_F) (n : Nat) (a0 : Nat) (a1 : Nat) (x2 : Int32) (x3 : Int32) (x4 : Int32) (x5 : Int32) (h : mm_H) :
  mm_r11_25 E cl (n + 1) a0 a1 x2 x3 x4 x5 h =
  (mm_br (x4 < x5) (
  mm_r11_87 E cl n a0 a1 x2 x3 x4 (mm_i 0) h) (
  mm_gR h a0 1 1 fun p_1 =>
    (mm_br (x3 ≤ x5) (
    mm_cV [] (cl 76 [.ref p_1, .int x5, .long (mm_j 0), .long (mm_j 0)] h) fun h_2 =>
      mm_r11_55 E cl n a0 a1 x2 x3 x4 x5 h_2) (
    mm_cV [] (cl 76 [.ref p_1, .int x5, .long (mm_j 288230376151711744), .long (mm_j 0)] h) fun h_3 =>
      mm_r11_55 E cl n a0 a1 x2 x3 x4 x5 h_3)))) := (rfl)
set_option maxRecDepth 20000 in
set_option maxHeartbeats 4000000 in
theorem mm_e11_55 (E : mm_E) (cl : mm_F) (n : Nat) (a0 : Nat) (a1 : Nat) (x2 : Int32) (x3 : Int32) (x4 : Int32) (x5 : Int32) (h : mm_H) :
  mm_r11_55 E cl (n + 1) a0 a1 x2 x3 x4 x5 h =
  mm_gR h a0 1 2 fun p_1 =>
  (mm_br (x5 = x3) (
  mm_cV [] (cl 76 [.ref p_1, .int x5, .long (mm_j 0), .long (mm_j 0)] h) fun h_3 =>
    mm_r11_25 E cl n a0 a1 x2 x3 x4 (x5 + (mm_i 1)) h_3) (
  mm_cV [] (cl 76 [.ref p_1, .int x5, .long (mm_j 288230376151711744), .long (mm_j 0)] h) fun h_2 =>
    mm_r11_25 E cl n a0 a1 x2 x3 x4 (x5 + (mm_i 1)) h_2)) := (rfl)
set_option maxRecDepth 20000 in
set_option maxHeartbeats 4000000 in
theorem mm_e11_87 (E : mm_E) (cl : mm_F) (n : Nat) (a0 : Nat) (a1 : Nat) (x2 : Int32) (x3 : Int32) (x4 : Int32) (x5 : Int32) (h : mm_H) :
  mm_r11_87 E cl (n + 1) a0 a1 x2 x3 x4 x5 h =
  mm_gI h a1 3 10 fun v_1 =>
  (mm_br (v_1 ≤ x5) (
  some (.inl none, h)) (
  mm_cI [] (cl 32 [.ref a1, .int x5, .int x2] h) fun v_3 h_2 =>
    (mm_br (v_3 = (mm_i 0)) (
    mm_r11_87 E cl n a0 a1 x2 x3 x4 (x5 + (mm_i 1)) h_2) (
    mm_gR h_2 a0 1 7 fun p_4 =>
      mm_rI E h_2 p_4 x2 fun v_5 =>
      (mm_br (x5 = v_5) (
      mm_r11_87 E cl n a0 a1 x2 x3 x4 (x5 + (mm_i 1)) h_2) (
      mm_r11_117 E cl n a0 a1 x2 x3 x4 x5 h_2)))))) := (rfl)
set_option maxRecDepth 20000 in
set_option maxHeartbeats 4000000 in
theorem mm_e11_117 (E : mm_E) (cl : mm_F) (n : Nat) (a0 : Nat) (a1 : Nat) (x2 : Int32) (x3 : Int32) (x4 : Int32) (x5 : Int32) (h : mm_H) :
  mm_r11_117 E cl (n + 1) a0 a1 x2 x3 x4 x5 h =
  mm_gR h a0 1 0 fun p_1 =>
  mm_rR h p_1 x5 fun p_2 =>
  mm_gR h a1 3 9 fun p_3 =>
  mm_rI E h p_3 x5 fun v_4 =>
  mm_cV [] (cl 12 [.ref a0, .ref p_2, .int v_4, .int x4] h) fun h_5 =>
  mm_r11_87 E cl n a0 a1 x2 x3 x4 (x5 + (mm_i 1)) h_5 := (rfl)
-- Best.addSupplier
noncomputable def mm_r12_0 (E : mm_E) (cl : mm_F) (n : Nat) (a0 : Nat) (a1 : Nat) (x2 : Int32) (x3 : Int32) (h : mm_H) : mm_R := mm_run E cl mm_m12 n 0 [some (.ref a0), some (.ref a1), some (.int x2), some (.int x3), none] [] h
noncomputable def mm_r12_15 (E : mm_E) (cl : mm_F) (n : Nat) (a0 : Nat) (a1 : Nat) (x2 : Int32) (x3 : Int32) (x4 : Int32) (h : mm_H) : mm_R := mm_run E cl mm_m12 n 15 [some (.ref a0), some (.ref a1), some (.int x2), some (.int x3), some (.int x4)] [] h
noncomputable def mm_r12_49 (E : mm_E) (cl : mm_F) (n : Nat) (a0 : Nat) (a1 : Nat) (x2 : Int32) (x3 : Int32) (x4 : Int32) (h : mm_H) : mm_R := mm_run E cl mm_m12 n 49 [some (.ref a0), some (.ref a1), some (.int x2), some (.int x3), some (.int x4)] [] h
noncomputable def mm_r12_98 (E : mm_E) (cl : mm_F) (n : Nat) (a0 : Nat) (a1 : Nat) (x2 : Int32) (x3 : Int32) (x4 : Int32) (h : mm_H) : mm_R := mm_run E cl mm_m12 n 98 [some (.ref a0), some (.ref a1), some (.int x2), some (.int x3), some (.int x4)] [] h
noncomputable def mm_r12_149 (E : mm_E) (cl : mm_F) (n : Nat) (a0 : Nat) (a1 : Nat) (x2 : Int32) (x3 : Int32) (x4 : Int32) (h : mm_H) : mm_R := mm_run E cl mm_m12 n 149 [some (.ref a0), some (.ref a1), some (.int x2), some (.int x3), some (.int x4)] [] h
set_option maxRecDepth 20000 in
set_option maxHeartbeats 4000000 in
theorem mm_e12_0 (E : mm_E) (cl : mm_F) (n : Nat) (a0 : Nat) (a1 : Nat) (x2 : Int32) (x3 : Int32) (h : mm_H) :
  mm_r12_0 E cl (n + 1) a0 a1 x2 x3 h =
  mm_gR h a0 1 4 fun p_1 =>
  mm_cV [] (cl 76 [.ref p_1, .int (mm_i 0), .long (mm_j 288230376151711744), .long (mm_j 0)] h) fun h_2 =>
  mm_r12_15 E cl n a0 a1 x2 x3 (mm_i 0) h_2 := (rfl)
set_option maxRecDepth 20000 in
set_option maxHeartbeats 4000000 in
theorem mm_e12_15 (E : mm_E) (cl : mm_F) (n : Nat) (a0 : Nat) (a1 : Nat) (x2 : Int32) (x3 : Int32) (x4 : Int32) (h : mm_H) :
  mm_r12_15 E cl (n + 1) a0 a1 x2 x3 x4 h =
  (mm_br (x3 < x4) (
  some (.inl none, h)) (
  (mm_br (x2 < x4) (
    mm_r12_49 E cl n a0 a1 x2 x3 x4 h) (
    mm_gR h a0 1 4 fun p_1 =>
      mm_gR h a1 5 0 fun p_2 =>
      mm_rJ h p_2 x4 fun w_3 =>
      mm_gR h a1 5 1 fun p_4 =>
      mm_rJ h p_4 x4 fun w_5 =>
      mm_cV [] (cl 77 [.ref p_1, .int (mm_i 0), .long w_3, .long w_5] h) fun h_6 =>
      mm_r12_49 E cl n a0 a1 x2 x3 x4 h_6)))) := (rfl)
set_option maxRecDepth 20000 in
set_option maxHeartbeats 4000000 in
theorem mm_e12_49 (E : mm_E) (cl : mm_F) (n : Nat) (a0 : Nat) (a1 : Nat) (x2 : Int32) (x3 : Int32) (x4 : Int32) (h : mm_H) :
  mm_r12_49 E cl (n + 1) a0 a1 x2 x3 x4 h =
  mm_gR h a0 1 2 fun p_1 =>
  mm_gR h a0 1 2 fun p_2 =>
  mm_gR h p_2 5 0 fun p_3 =>
  mm_rJ h p_3 x4 fun w_4 =>
  mm_gR h a0 1 4 fun p_5 =>
  mm_gR h p_5 5 0 fun p_6 =>
  mm_rJ h p_6 (mm_i 0) fun w_7 =>
  mm_gR h a0 1 2 fun p_8 =>
  mm_gR h p_8 5 1 fun p_9 =>
  mm_rJ h p_9 x4 fun w_10 =>
  mm_gR h a0 1 4 fun p_11 =>
  mm_gR h p_11 5 1 fun p_12 =>
  mm_rJ h p_12 (mm_i 0) fun w_13 =>
  mm_cV [] (cl 76 [.ref p_1, .int x4, .long (w_4 + w_7), .long (w_10 + w_13)] h) fun h_14 =>
  mm_r12_98 E cl n a0 a1 x2 x3 x4 h_14 := (rfl)
set_option maxRecDepth 20000 in
set_option maxHeartbeats 4000000 in
theorem mm_e12_98 (E : mm_E) (cl : mm_F) (n : Nat) (a0 : Nat) (a1 : Nat) (x2 : Int32) (x3 : Int32) (x4 : Int32) (h : mm_H) :
  mm_r12_98 E cl (n + 1) a0 a1 x2 x3 x4 h =
  (mm_br (x2 < x4) (
  mm_r12_149 E cl n a0 a1 x2 x3 x4 h) (
  mm_gR h a0 1 2 fun p_1 =>
    mm_gR h a0 1 1 fun p_2 =>
    mm_gR h p_2 5 0 fun p_3 =>
    mm_rJ h p_3 x4 fun w_4 =>
    mm_gR h a1 5 0 fun p_5 =>
    mm_rJ h p_5 x4 fun w_6 =>
    mm_gR h a0 1 1 fun p_7 =>
    mm_gR h p_7 5 1 fun p_8 =>
    mm_rJ h p_8 x4 fun w_9 =>
    mm_gR h a1 5 1 fun p_10 =>
    mm_rJ h p_10 x4 fun w_11 =>
    mm_cV [] (cl 77 [.ref p_1, .int x4, .long (w_4 + w_6), .long (w_9 + w_11)] h) fun h_12 =>
    mm_r12_149 E cl n a0 a1 x2 x3 x4 h_12)) := (rfl)
set_option maxRecDepth 20000 in
set_option maxHeartbeats 4000000 in
theorem mm_e12_149 (E : mm_E) (cl : mm_F) (n : Nat) (a0 : Nat) (a1 : Nat) (x2 : Int32) (x3 : Int32) (x4 : Int32) (h : mm_H) :
  mm_r12_149 E cl (n + 1) a0 a1 x2 x3 x4 h =
  mm_gR h a0 1 1 fun p_1 =>
  mm_gR h a0 1 1 fun p_2 =>
  mm_gR h p_2 5 0 fun p_3 =>
  mm_rJ h p_3 x4 fun w_4 =>
  mm_gR h a0 1 4 fun p_5 =>
  mm_gR h p_5 5 0 fun p_6 =>
  mm_rJ h p_6 (mm_i 0) fun w_7 =>
  mm_gR h a0 1 1 fun p_8 =>
  mm_gR h p_8 5 1 fun p_9 =>
  mm_rJ h p_9 x4 fun w_10 =>
  mm_gR h a0 1 4 fun p_11 =>
  mm_gR h p_11 5 1 fun p_12 =>
  mm_rJ h p_12 (mm_i 0) fun w_13 =>
  mm_cV [] (cl 76 [.ref p_1, .int x4, .long (w_4 + w_7), .long (w_10 + w_13)] h) fun h_14 =>
  mm_r12_15 E cl n a0 a1 x2 x3 (x4 + (mm_i 1)) h_14 := (rfl)
-- Best.weighCustomers
noncomputable def mm_r13_0 (E : mm_E) (cl : mm_F) (n : Nat) (a0 : Nat) (a1 : Nat) (x2 : Int32) (h : mm_H) : mm_R := mm_run E cl mm_m13 n 0 [some (.ref a0), some (.ref a1), some (.int x2), none, none, none, none, none, none] [] h
noncomputable def mm_r13_19 (E : mm_E) (cl : mm_F) (n : Nat) (a0 : Nat) (a1 : Nat) (x2 : Int32) (x3 : Int32) (x4 : Int32) (x5 : Int32) (o6 : Option Value) (o7 : Option Value) (o8 : Option Value) (h : mm_H) : mm_R := mm_run E cl mm_m13 n 19 [some (.ref a0), some (.ref a1), some (.int x2), some (.int x3), some (.int x4), some (.int x5), o6, o7, o8] [] h
noncomputable def mm_r13_59 (E : mm_E) (cl : mm_F) (n : Nat) (a0 : Nat) (a1 : Nat) (x2 : Int32) (x3 : Int32) (x4 : Int32) (x5 : Int32) (o6 : Option Value) (o7 : Option Value) (o8 : Option Value) (s0 : Int32) (h : mm_H) : mm_R := mm_run E cl mm_m13 n 59 [some (.ref a0), some (.ref a1), some (.int x2), some (.int x3), some (.int x4), some (.int x5), o6, o7, o8] [.int s0] h
noncomputable def mm_r13_99 (E : mm_E) (cl : mm_F) (n : Nat) (a0 : Nat) (a1 : Nat) (x2 : Int32) (x3 : Int32) (x4 : Int32) (x5 : Int32) (x6 : Int32) (y7 : Int64) (b0 : Nat) (s1 : Int32) (t2 : Int64) (h : mm_H) : mm_R := mm_run E cl mm_m13 n 99 [some (.ref a0), some (.ref a1), some (.int x2), some (.int x3), some (.int x4), some (.int x5), some (.int x6), some (.long y7), none] [.long t2, .int s1, .ref b0] h
noncomputable def mm_r13_122 (E : mm_E) (cl : mm_F) (n : Nat) (a0 : Nat) (a1 : Nat) (x2 : Int32) (x3 : Int32) (x4 : Int32) (x5 : Int32) (o6 : Option Value) (o7 : Option Value) (o8 : Option Value) (h : mm_H) : mm_R := mm_run E cl mm_m13 n 122 [some (.ref a0), some (.ref a1), some (.int x2), some (.int x3), some (.int x4), some (.int x5), o6, o7, o8] [] h
noncomputable def mm_r13_155 (E : mm_E) (cl : mm_F) (n : Nat) (a0 : Nat) (a1 : Nat) (x2 : Int32) (x3 : Int32) (x4 : Int32) (x5 : Int32) (x6 : Int32) (o7 : Option Value) (o8 : Option Value) (h : mm_H) : mm_R := mm_run E cl mm_m13 n 155 [some (.ref a0), some (.ref a1), some (.int x2), some (.int x3), some (.int x4), some (.int x5), some (.int x6), o7, o8] [] h
set_option maxRecDepth 20000 in
set_option maxHeartbeats 4000000 in
theorem mm_e13_0 (E : mm_E) (cl : mm_F) (n : Nat) (a0 : Nat) (a1 : Nat) (x2 : Int32) (h : mm_H) :
  mm_r13_0 E cl (n + 1) a0 a1 x2 h =
  mm_cI [] (cl 30 [.ref a1, .int x2, .int (mm_i 6)] h) fun v_2 h_1 =>
  mm_cI [] (cl 30 [.ref a1, .int x2, .int (mm_i 5)] h_1) fun v_4 h_3 =>
  mm_r13_19 E cl n a0 a1 x2 v_2 v_4 (mm_i 0) none none none h_3 := (rfl)
set_option maxRecDepth 20000 in
set_option maxHeartbeats 4000000 in
theorem mm_e13_19 (E : mm_E) (cl : mm_F) (n : Nat) (a0 : Nat) (a1 : Nat) (x2 : Int32) (x3 : Int32) (x4 : Int32) (x5 : Int32) (o6 : Option Value) (o7 : Option Value) (o8 : Option Value) (h : mm_H) :
  mm_r13_19 E cl (n + 1) a0 a1 x2 x3 x4 x5 o6 o7 o8 h =
  mm_gR h a1 3 9 fun p_1 =>
  mm_rI E h p_1 x2 fun v_2 =>
  (mm_br (v_2 < x5) (
  mm_r13_122 E cl n a0 a1 x2 x3 x4 (mm_i 0) o6 o7 o8 h) (
  (mm_br (x3 = (mm_i (-1))) (
    (mm_br (x4 = (mm_i (-1))) (
      mm_r13_59 E cl n a0 a1 x2 x3 x4 x5 o6 o7 o8 (mm_i 1) h) (
      (mm_br (x4 < x5) (
        mm_r13_59 E cl n a0 a1 x2 x3 x4 x5 o6 o7 o8 (mm_i 0) h) (
        mm_r13_59 E cl n a0 a1 x2 x3 x4 x5 o6 o7 o8 (mm_i 1) h))))) (
    (mm_br (x5 = x3) (
      (mm_br (x4 = (mm_i (-1))) (
        mm_r13_59 E cl n a0 a1 x2 x3 x4 x5 o6 o7 o8 (mm_i 1) h) (
        (mm_br (x4 < x5) (
          mm_r13_59 E cl n a0 a1 x2 x3 x4 x5 o6 o7 o8 (mm_i 0) h) (
          mm_r13_59 E cl n a0 a1 x2 x3 x4 x5 o6 o7 o8 (mm_i 1) h))))) (
      mm_r13_59 E cl n a0 a1 x2 x3 x4 x5 o6 o7 o8 (mm_i 0) h)))))) := (rfl)
set_option maxRecDepth 20000 in
set_option maxHeartbeats 4000000 in
theorem mm_e13_59 (E : mm_E) (cl : mm_F) (n : Nat) (a0 : Nat) (a1 : Nat) (x2 : Int32) (x3 : Int32) (x4 : Int32) (x5 : Int32) (o6 : Option Value) (o7 : Option Value) (o8 : Option Value) (s0 : Int32) (h : mm_H) :
  mm_r13_59 E cl (n + 1) a0 a1 x2 x3 x4 x5 o6 o7 o8 s0 h =
  mm_cI [] (cl 7 [.int x2] h) fun v_2 h_1 =>
  mm_gR h_1 a0 1 3 fun p_3 =>
  (mm_br (s0 = (mm_i 0)) (
  mm_r13_99 E cl n a0 a1 x2 x3 x4 x5 s0 ((Int32.toInt64 x5) <<< (Int32.toInt64 v_2 &&& 63)) p_3 x5 (mm_j 288230376151711744) h_1) (
  (mm_br ((mm_i 4) ≤ x2) (
    mm_r13_99 E cl n a0 a1 x2 x3 x4 x5 s0 ((Int32.toInt64 x5) <<< (Int32.toInt64 v_2 &&& 63)) p_3 x5 (mm_j 0) h_1) (
    mm_r13_99 E cl n a0 a1 x2 x3 x4 x5 s0 ((Int32.toInt64 x5) <<< (Int32.toInt64 v_2 &&& 63)) p_3 x5 ((Int32.toInt64 x5) <<< (Int32.toInt64 v_2 &&& 63)) h_1)))) := (rfl)
set_option maxRecDepth 20000 in
set_option maxHeartbeats 4000000 in
theorem mm_e13_99 (E : mm_E) (cl : mm_F) (n : Nat) (a0 : Nat) (a1 : Nat) (x2 : Int32) (x3 : Int32) (x4 : Int32) (x5 : Int32) (x6 : Int32) (y7 : Int64) (b0 : Nat) (s1 : Int32) (t2 : Int64) (h : mm_H) :
  mm_r13_99 E cl (n + 1) a0 a1 x2 x3 x4 x5 x6 y7 b0 s1 t2 h =
  (mm_br ((mm_i 4) ≤ x2) (
  mm_cV [] (cl 76 [.ref b0, .int s1, .long t2, .long y7] h) fun h_1 =>
    mm_r13_19 E cl n a0 a1 x2 x3 x4 (x5 + (mm_i 1)) (some (.int x6)) (some (.long y7)) none h_1) (
  mm_cV [] (cl 76 [.ref b0, .int s1, .long t2, .long (mm_j 0)] h) fun h_2 =>
    mm_r13_19 E cl n a0 a1 x2 x3 x4 (x5 + (mm_i 1)) (some (.int x6)) (some (.long y7)) none h_2)) := (rfl)
set_option maxRecDepth 20000 in
set_option maxHeartbeats 4000000 in
theorem mm_e13_122 (E : mm_E) (cl : mm_F) (n : Nat) (a0 : Nat) (a1 : Nat) (x2 : Int32) (x3 : Int32) (x4 : Int32) (x5 : Int32) (o6 : Option Value) (o7 : Option Value) (o8 : Option Value) (h : mm_H) :
  mm_r13_122 E cl (n + 1) a0 a1 x2 x3 x4 x5 o6 o7 o8 h =
  mm_gI h a1 3 10 fun v_1 =>
  (mm_br (v_1 ≤ x5) (
  some (.inl none, h)) (
  mm_cI [] (cl 32 [.ref a1, .int x2, .int x5] h) fun v_3 h_2 =>
    (mm_br (v_3 = (mm_i 0)) (
    mm_r13_122 E cl n a0 a1 x2 x3 x4 (x5 + (mm_i 1)) o6 o7 o8 h_2) (
    mm_gR h_2 a0 1 7 fun p_4 =>
      mm_rI E h_2 p_4 x2 fun v_5 =>
      (mm_br (x5 = v_5) (
      mm_r13_122 E cl n a0 a1 x2 x3 x4 (x5 + (mm_i 1)) o6 o7 o8 h_2) (
      mm_r13_155 E cl n a0 a1 x2 x3 x4 x5 (mm_i 0) o7 o8 h_2)))))) := (rfl)
set_option maxRecDepth 20000 in
set_option maxHeartbeats 4000000 in
theorem mm_e13_155 (E : mm_E) (cl : mm_F) (n : Nat) (a0 : Nat) (a1 : Nat) (x2 : Int32) (x3 : Int32) (x4 : Int32) (x5 : Int32) (x6 : Int32) (o7 : Option Value) (o8 : Option Value) (h : mm_H) :
  mm_r13_155 E cl (n + 1) a0 a1 x2 x3 x4 x5 x6 o7 o8 h =
  mm_gR h a1 3 9 fun p_1 =>
  mm_rI E h p_1 x2 fun v_2 =>
  (mm_br (v_2 < x6) (
  mm_r13_122 E cl n a0 a1 x2 x3 x4 (x5 + (mm_i 1)) (some (.int x6)) o7 o8 h) (
  mm_gR h a0 1 3 fun p_3 =>
    mm_gR h a0 1 3 fun p_4 =>
    mm_gR h p_4 5 0 fun p_5 =>
    mm_rJ h p_5 x6 fun w_6 =>
    mm_gR h a0 1 0 fun p_7 =>
    mm_rR h p_7 x5 fun p_8 =>
    mm_gR h p_8 5 0 fun p_9 =>
    mm_rJ h p_9 x6 fun w_10 =>
    mm_gR h a0 1 3 fun p_11 =>
    mm_gR h p_11 5 1 fun p_12 =>
    mm_rJ h p_12 x6 fun w_13 =>
    mm_gR h a0 1 0 fun p_14 =>
    mm_rR h p_14 x5 fun p_15 =>
    mm_gR h p_15 5 1 fun p_16 =>
    mm_rJ h p_16 x6 fun w_17 =>
    mm_cV [] (cl 76 [.ref p_3, .int x6, .long (w_6 + w_10), .long (w_13 + w_17)] h) fun h_18 =>
    mm_r13_155 E cl n a0 a1 x2 x3 x4 x5 (x6 + (mm_i 1)) o7 o8 h_18)) := (rfl)
-- Best.tellByTime
noncomputable def mm_r14_0 (E : mm_E) (cl : mm_F) (n : Nat) (a0 : Nat) (a1 : Nat) (x2 : Int32) (h : mm_H) : mm_R := mm_run E cl mm_m14 n 0 [some (.ref a0), some (.ref a1), some (.int x2), none, none, none, none] [] h
noncomputable def mm_r14_29 (E : mm_E) (cl : mm_F) (n : Nat) (a0 : Nat) (a1 : Nat) (x2 : Int32) (a3 : Nat) (x4 : Int32) (x5 : Int32) (x6 : Int32) (h : mm_H) : mm_R := mm_run E cl mm_m14 n 29 [some (.ref a0), some (.ref a1), some (.int x2), some (.ref a3), some (.int x4), some (.int x5), some (.int x6)] [] h
noncomputable def mm_r14_67 (E : mm_E) (cl : mm_F) (n : Nat) (a0 : Nat) (a1 : Nat) (x2 : Int32) (a3 : Nat) (x4 : Int32) (x5 : Int32) (x6 : Int32) (h : mm_H) : mm_R := mm_run E cl mm_m14 n 67 [some (.ref a0), some (.ref a1), some (.int x2), some (.ref a3), some (.int x4), some (.int x5), some (.int x6)] [] h
set_option maxRecDepth 20000 in
set_option maxHeartbeats 4000000 in
theorem mm_e14_0 (E : mm_E) (cl : mm_F) (n : Nat) (a0 : Nat) (a1 : Nat) (x2 : Int32) (h : mm_H) :
  mm_r14_0 E cl (n + 1) a0 a1 x2 h =
  mm_gR h a0 1 0 fun p_1 =>
  mm_rR h p_1 x2 fun p_2 =>
  mm_cI [] (cl 30 [.ref a1, .int x2, .int (mm_i 0)] h) fun v_4 h_3 =>
  mm_gR h_3 a1 3 9 fun p_5 =>
  mm_rI E h_3 p_5 x2 fun v_6 =>
  mm_r14_29 E cl n a0 a1 x2 p_2 v_4 (v_6 - v_4) (mm_i 0) h_3 := (rfl)
set_option maxRecDepth 20000 in
set_option maxHeartbeats 4000000 in
theorem mm_e14_29 (E : mm_E) (cl : mm_F) (n : Nat) (a0 : Nat) (a1 : Nat) (x2 : Int32) (a3 : Nat) (x4 : Int32) (x5 : Int32) (x6 : Int32) (h : mm_H) :
  mm_r14_29 E cl (n + 1) a0 a1 x2 a3 x4 x5 x6 h =
  mm_gR h a1 3 9 fun p_1 =>
  mm_rI E h p_1 x2 fun v_2 =>
  (mm_br (v_2 < x6) (
  some (.inl none, h)) (
  mm_cV [] (cl 76 [.ref a3, .int x6, .long (mm_j 288230376151711744), .long (mm_j 0)] h) fun h_3 =>
    mm_gR h_3 a0 1 3 fun p_4 =>
    mm_gR h_3 p_4 5 0 fun p_5 =>
    mm_rJ h_3 p_5 x6 fun w_6 =>
    (mm_br ((mm_i 0) ≤ (lg_cmp w_6 (mm_j 288230376151711744))) (
    mm_r14_29 E cl n a0 a1 x2 a3 x4 x5 (x6 + (mm_i 1)) h_3) (
    mm_r14_67 E cl n a0 a1 x2 a3 x4 x5 x6 h_3)))) := (rfl)
set_option maxRecDepth 20000 in
set_option maxHeartbeats 4000000 in
theorem mm_e14_67 (E : mm_E) (cl : mm_F) (n : Nat) (a0 : Nat) (a1 : Nat) (x2 : Int32) (a3 : Nat) (x4 : Int32) (x5 : Int32) (x6 : Int32) (h : mm_H) :
  mm_r14_67 E cl (n + 1) a0 a1 x2 a3 x4 x5 x6 h =
  mm_cV [] (cl 15 [.ref a0, .int (x4 - x6), .int x5] h) fun h_1 =>
  mm_gR h_1 a0 1 4 fun p_2 =>
  mm_gR h_1 p_2 5 0 fun p_3 =>
  mm_rJ h_1 p_3 (mm_i 0) fun w_4 =>
  mm_gR h_1 a0 1 3 fun p_5 =>
  mm_gR h_1 p_5 5 0 fun p_6 =>
  mm_rJ h_1 p_6 x6 fun w_7 =>
  mm_gR h_1 a0 1 4 fun p_8 =>
  mm_gR h_1 p_8 5 1 fun p_9 =>
  mm_rJ h_1 p_9 (mm_i 0) fun w_10 =>
  mm_gR h_1 a0 1 3 fun p_11 =>
  mm_gR h_1 p_11 5 1 fun p_12 =>
  mm_rJ h_1 p_12 x6 fun w_13 =>
  mm_cV [] (cl 76 [.ref a3, .int x6, .long (w_4 + w_7), .long (w_10 + w_13)] h_1) fun h_14 =>
  mm_r14_29 E cl n a0 a1 x2 a3 x4 x5 (x6 + (mm_i 1)) h_14 := (rfl)
-- Best.pickWait
noncomputable def mm_r15_0 (E : mm_E) (cl : mm_F) (n : Nat) (a0 : Nat) (x1 : Int32) (x2 : Int32) (h : mm_H) : mm_R := mm_run E cl mm_m15 n 0 [some (.ref a0), some (.int x1), some (.int x2), none, none, none, none, none, none, none, none, none] [] h
noncomputable def mm_r15_33 (E : mm_E) (cl : mm_F) (n : Nat) (a0 : Nat) (x1 : Int32) (x2 : Int32) (a3 : Nat) (a4 : Nat) (y5 : Int64) (y7 : Int64) (x9 : Int32) (o10 : Option Value) (o11 : Option Value) (h : mm_H) : mm_R := mm_run E cl mm_m15 n 33 [some (.ref a0), some (.int x1), some (.int x2), some (.ref a3), some (.ref a4), some (.long y5), none, some (.long y7), none, some (.int x9), o10, o11] [] h
noncomputable def mm_r15_72 (E : mm_E) (cl : mm_F) (n : Nat) (a0 : Nat) (x1 : Int32) (x2 : Int32) (a3 : Nat) (a4 : Nat) (y5 : Int64) (y7 : Int64) (x9 : Int32) (y10 : Int64) (h : mm_H) : mm_R := mm_run E cl mm_m15 n 72 [some (.ref a0), some (.int x1), some (.int x2), some (.ref a3), some (.ref a4), some (.long y5), none, some (.long y7), none, some (.int x9), some (.long y10), none] [] h
noncomputable def mm_r15_80 (E : mm_E) (cl : mm_F) (n : Nat) (a0 : Nat) (x1 : Int32) (x2 : Int32) (a3 : Nat) (a4 : Nat) (y5 : Int64) (y7 : Int64) (x9 : Int32) (y10 : Int64) (h : mm_H) : mm_R := mm_run E cl mm_m15 n 80 [some (.ref a0), some (.int x1), some (.int x2), some (.ref a3), some (.ref a4), some (.long y5), none, some (.long y7), none, some (.int x9), some (.long y10), none] [] h
noncomputable def mm_r15_95 (E : mm_E) (cl : mm_F) (n : Nat) (a0 : Nat) (x1 : Int32) (x2 : Int32) (a3 : Nat) (a4 : Nat) (y5 : Int64) (y7 : Int64) (x9 : Int32) (y10 : Int64) (h : mm_H) : mm_R := mm_run E cl mm_m15 n 95 [some (.ref a0), some (.int x1), some (.int x2), some (.ref a3), some (.ref a4), some (.long y5), none, some (.long y7), none, some (.int x9), some (.long y10), none] [] h
set_option maxRecDepth 20000 in
set_option maxHeartbeats 4000000 in
theorem mm_e15_0 (E : mm_E) (cl : mm_F) (n : Nat) (a0 : Nat) (x1 : Int32) (x2 : Int32) (h : mm_H) :
  mm_r15_0 E cl (n + 1) a0 x1 x2 h =
  mm_gR h a0 1 2 fun p_1 =>
  mm_gR h p_1 5 0 fun p_2 =>
  mm_gR h a0 1 2 fun p_3 =>
  mm_gR h p_3 5 1 fun p_4 =>
  mm_r15_33 E cl n a0 x1 x2 p_2 p_4 (mm_j 288230376151711744) (mm_j 0) (mm_mx (mm_i 0) (-x1)) none none h := (rfl)
set_option maxRecDepth 20000 in
set_option maxHeartbeats 4000000 in
theorem mm_e15_33 (E : mm_E) (cl : mm_F) (n : Nat) (a0 : Nat) (x1 : Int32) (x2 : Int32) (a3 : Nat) (a4 : Nat) (y5 : Int64) (y7 : Int64) (x9 : Int32) (o10 : Option Value) (o11 : Option Value) (h : mm_H) :
  mm_r15_33 E cl (n + 1) a0 x1 x2 a3 a4 y5 y7 x9 o10 o11 h =
  (mm_br (x2 < x9) (
  mm_gR h a0 1 4 fun p_1 =>
    mm_cV [] (cl 76 [.ref p_1, .int (mm_i 0), .long y5, .long y7] h) fun h_2 =>
    some (.inl none, h_2)) (
  (mm_br ((mm_i 120) ≤ (x9 + x1)) (
    mm_gR h a0 1 4 fun p_3 =>
      mm_cV [] (cl 76 [.ref p_3, .int (mm_i 0), .long y5, .long y7] h) fun h_4 =>
      some (.inl none, h_4)) (
    mm_rJ h a3 x9 fun w_5 =>
      mm_gR h a0 1 5 fun p_6 =>
      mm_rJ h p_6 (x9 + x1) fun w_7 =>
      (mm_br ((lg_cmp (w_5 + w_7) y5) < (mm_i 0)) (
      mm_r15_95 E cl n a0 x1 x2 a3 a4 (w_5 + w_7) y7 x9 (w_5 + w_7) h) (
      mm_r15_72 E cl n a0 x1 x2 a3 a4 y5 y7 x9 (w_5 + w_7) h)))))) := (rfl)
set_option maxRecDepth 20000 in
set_option maxHeartbeats 4000000 in
theorem mm_e15_72 (E : mm_E) (cl : mm_F) (n : Nat) (a0 : Nat) (x1 : Int32) (x2 : Int32) (a3 : Nat) (a4 : Nat) (y5 : Int64) (y7 : Int64) (x9 : Int32) (y10 : Int64) (h : mm_H) :
  mm_r15_72 E cl (n + 1) a0 x1 x2 a3 a4 y5 y7 x9 y10 h =
  (mm_br ((lg_cmp y10 y5) = (mm_i 0)) (
  mm_r15_80 E cl n a0 x1 x2 a3 a4 y5 y7 x9 y10 h) (
  mm_r15_33 E cl n a0 x1 x2 a3 a4 y5 y7 (x9 + (mm_i 1)) (some (.long y10)) none h)) := (rfl)
set_option maxRecDepth 20000 in
set_option maxHeartbeats 4000000 in
theorem mm_e15_80 (E : mm_E) (cl : mm_F) (n : Nat) (a0 : Nat) (x1 : Int32) (x2 : Int32) (a3 : Nat) (a4 : Nat) (y5 : Int64) (y7 : Int64) (x9 : Int32) (y10 : Int64) (h : mm_H) :
  mm_r15_80 E cl (n + 1) a0 x1 x2 a3 a4 y5 y7 x9 y10 h =
  mm_rJ h a4 x9 fun w_1 =>
  (mm_br ((mm_i 0) ≤ (lg_cmp w_1 y7)) (
  mm_r15_33 E cl n a0 x1 x2 a3 a4 y5 y7 (x9 + (mm_i 1)) (some (.long y10)) none h) (
  mm_r15_95 E cl n a0 x1 x2 a3 a4 y10 y7 x9 y10 h)) := (rfl)
set_option maxRecDepth 20000 in
set_option maxHeartbeats 4000000 in
theorem mm_e15_95 (E : mm_E) (cl : mm_F) (n : Nat) (a0 : Nat) (x1 : Int32) (x2 : Int32) (a3 : Nat) (a4 : Nat) (y5 : Int64) (y7 : Int64) (x9 : Int32) (y10 : Int64) (h : mm_H) :
  mm_r15_95 E cl (n + 1) a0 x1 x2 a3 a4 y5 y7 x9 y10 h =
  mm_rJ h a4 x9 fun w_1 =>
  mm_r15_33 E cl n a0 x1 x2 a3 a4 y5 w_1 (x9 + (mm_i 1)) (some (.long y10)) none h := (rfl)
-- Best.tellBySupplier
noncomputable def mm_r16_0 (E : mm_E) (cl : mm_F) (n : Nat) (a0 : Nat) (a1 : Nat) (x2 : Int32) (h : mm_H) : mm_R := mm_run E cl mm_m16 n 0 [some (.ref a0), some (.ref a1), some (.int x2), none, none, none, none, none, none, none, none, none] [] h
noncomputable def mm_r16_23 (E : mm_E) (cl : mm_F) (n : Nat) (a0 : Nat) (a1 : Nat) (x2 : Int32) (a3 : Nat) (x4 : Int32) (x5 : Int32) (o6 : Option Value) (o7 : Option Value) (o8 : Option Value) (o9 : Option Value) (o10 : Option Value) (o11 : Option Value) (h : mm_H) : mm_R := mm_run E cl mm_m16 n 23 [some (.ref a0), some (.ref a1), some (.int x2), some (.ref a3), some (.int x4), some (.int x5), o6, o7, o8, o9, o10, o11] [] h
noncomputable def mm_r16_46 (E : mm_E) (cl : mm_F) (n : Nat) (a0 : Nat) (a1 : Nat) (x2 : Int32) (a3 : Nat) (x4 : Int32) (x5 : Int32) (x6 : Int32) (y7 : Int64) (y9 : Int64) (x11 : Int32) (h : mm_H) : mm_R := mm_run E cl mm_m16 n 46 [some (.ref a0), some (.ref a1), some (.int x2), some (.ref a3), some (.int x4), some (.int x5), some (.int x6), some (.long y7), none, some (.long y9), none, some (.int x11)] [] h
noncomputable def mm_r16_72 (E : mm_E) (cl : mm_F) (n : Nat) (a0 : Nat) (a1 : Nat) (x2 : Int32) (a3 : Nat) (x4 : Int32) (x5 : Int32) (x6 : Int32) (y7 : Int64) (y9 : Int64) (x11 : Int32) (h : mm_H) : mm_R := mm_run E cl mm_m16 n 72 [some (.ref a0), some (.ref a1), some (.int x2), some (.ref a3), some (.int x4), some (.int x5), some (.int x6), some (.long y7), none, some (.long y9), none, some (.int x11)] [] h
noncomputable def mm_r16_118 (E : mm_E) (cl : mm_F) (n : Nat) (a0 : Nat) (a1 : Nat) (x2 : Int32) (a3 : Nat) (x4 : Int32) (x5 : Int32) (x6 : Int32) (y7 : Int64) (y9 : Int64) (x11 : Int32) (h : mm_H) : mm_R := mm_run E cl mm_m16 n 118 [some (.ref a0), some (.ref a1), some (.int x2), some (.ref a3), some (.int x4), some (.int x5), some (.int x6), some (.long y7), none, some (.long y9), none, some (.int x11)] [] h
noncomputable def mm_r16_166 (E : mm_E) (cl : mm_F) (n : Nat) (a0 : Nat) (a1 : Nat) (x2 : Int32) (a3 : Nat) (x4 : Int32) (x5 : Int32) (x6 : Int32) (y7 : Int64) (y9 : Int64) (x11 : Int32) (h : mm_H) : mm_R := mm_run E cl mm_m16 n 166 [some (.ref a0), some (.ref a1), some (.int x2), some (.ref a3), some (.int x4), some (.int x5), some (.int x6), some (.long y7), none, some (.long y9), none, some (.int x11)] [] h
noncomputable def mm_r16_209 (E : mm_E) (cl : mm_F) (n : Nat) (a0 : Nat) (a1 : Nat) (x2 : Int32) (a3 : Nat) (x4 : Int32) (x5 : Int32) (x6 : Int32) (y7 : Int64) (y9 : Int64) (x11 : Int32) (h : mm_H) : mm_R := mm_run E cl mm_m16 n 209 [some (.ref a0), some (.ref a1), some (.int x2), some (.ref a3), some (.int x4), some (.int x5), some (.int x6), some (.long y7), none, some (.long y9), none, some (.int x11)] [] h
set_option maxRecDepth 20000 in
set_option maxHeartbeats 4000000 in
theorem mm_e16_0 (E : mm_E) (cl : mm_F) (n : Nat) (a0 : Nat) (a1 : Nat) (x2 : Int32) (h : mm_H) :
  mm_r16_0 E cl (n + 1) a0 a1 x2 h =
  mm_gR h a0 1 0 fun p_1 =>
  mm_rR h p_1 x2 fun p_2 =>
  mm_cI [] (cl 30 [.ref a1, .int x2, .int (mm_i 2)] h) fun v_4 h_3 =>
  mm_cI [] (cl 30 [.ref a1, .int x2, .int (mm_i 0)] h_3) fun v_6 h_5 =>
  mm_r16_23 E cl n a0 a1 x2 p_2 v_4 v_6 none none none none none none h_5 := (rfl)
set_option maxRecDepth 20000 in
set_option maxHeartbeats 4000000 in
theorem mm_e16_23 (E : mm_E) (cl : mm_F) (n : Nat) (a0 : Nat) (a1 : Nat) (x2 : Int32) (a3 : Nat) (x4 : Int32) (x5 : Int32) (o6 : Option Value) (o7 : Option Value) (o8 : Option Value) (o9 : Option Value) (o10 : Option Value) (o11 : Option Value) (h : mm_H) :
  mm_r16_23 E cl (n + 1) a0 a1 x2 a3 x4 x5 o6 o7 o8 o9 o10 o11 h =
  mm_gR h a1 3 9 fun p_1 =>
  mm_rI E h p_1 x2 fun v_2 =>
  mm_r16_46 E cl n a0 a1 x2 a3 x4 x5 (v_2 - x5) (mm_j 288230376151711744) (mm_j 0) (v_2 - x5) h := (rfl)
set_option maxRecDepth 20000 in
set_option maxHeartbeats 4000000 in
theorem mm_e16_46 (E : mm_E) (cl : mm_F) (n : Nat) (a0 : Nat) (a1 : Nat) (x2 : Int32) (a3 : Nat) (x4 : Int32) (x5 : Int32) (x6 : Int32) (y7 : Int64) (y9 : Int64) (x11 : Int32) (h : mm_H) :
  mm_r16_46 E cl (n + 1) a0 a1 x2 a3 x4 x5 x6 y7 y9 x11 h =
  (mm_br (x11 < x4) (
  mm_r16_209 E cl n a0 a1 x2 a3 x4 x5 x6 y7 y9 (mm_i 0) h) (
  mm_cV [] (cl 17 [.ref a0, .int (x11 + x5)] h) fun h_1 =>
    mm_cV [] (cl 76 [.ref a3, .int x11, .long y7, .long y9] h_1) fun h_2 =>
    mm_r16_72 E cl n a0 a1 x2 a3 x4 x5 x6 y7 y9 x11 h_2)) := (rfl)
set_option maxRecDepth 20000 in
set_option maxHeartbeats 4000000 in
theorem mm_e16_72 (E : mm_E) (cl : mm_F) (n : Nat) (a0 : Nat) (a1 : Nat) (x2 : Int32) (a3 : Nat) (x4 : Int32) (x5 : Int32) (x6 : Int32) (y7 : Int64) (y9 : Int64) (x11 : Int32) (h : mm_H) :
  mm_r16_72 E cl (n + 1) a0 a1 x2 a3 x4 x5 x6 y7 y9 x11 h =
  mm_gR h a0 1 1 fun p_1 =>
  mm_gR h p_1 5 0 fun p_2 =>
  mm_rJ h p_2 x11 fun w_3 =>
  mm_gR h a0 1 4 fun p_4 =>
  mm_gR h p_4 5 0 fun p_5 =>
  mm_rJ h p_5 (mm_i 0) fun w_6 =>
  mm_gR h a0 1 1 fun p_7 =>
  mm_gR h p_7 5 1 fun p_8 =>
  mm_rJ h p_8 x11 fun w_9 =>
  mm_gR h a0 1 4 fun p_10 =>
  mm_gR h p_10 5 1 fun p_11 =>
  mm_rJ h p_11 (mm_i 0) fun w_12 =>
  mm_cV [] (cl 77 [.ref a3, .int x11, .long (w_3 + w_6), .long (w_9 + w_12)] h) fun h_13 =>
  mm_r16_118 E cl n a0 a1 x2 a3 x4 x5 x6 y7 y9 x11 h_13 := (rfl)
set_option maxRecDepth 20000 in
set_option maxHeartbeats 4000000 in
theorem mm_e16_118 (E : mm_E) (cl : mm_F) (n : Nat) (a0 : Nat) (a1 : Nat) (x2 : Int32) (a3 : Nat) (x4 : Int32) (x5 : Int32) (x6 : Int32) (y7 : Int64) (y9 : Int64) (x11 : Int32) (h : mm_H) :
  mm_r16_118 E cl (n + 1) a0 a1 x2 a3 x4 x5 x6 y7 y9 x11 h =
  mm_gR h a0 1 4 fun p_1 =>
  mm_gR h a0 1 2 fun p_2 =>
  mm_gR h p_2 5 0 fun p_3 =>
  mm_rJ h p_3 x11 fun w_4 =>
  mm_gR h a0 1 4 fun p_5 =>
  mm_gR h p_5 5 0 fun p_6 =>
  mm_rJ h p_6 (mm_i 0) fun w_7 =>
  mm_gR h a0 1 2 fun p_8 =>
  mm_gR h p_8 5 1 fun p_9 =>
  mm_rJ h p_9 x11 fun w_10 =>
  mm_gR h a0 1 4 fun p_11 =>
  mm_gR h p_11 5 1 fun p_12 =>
  mm_rJ h p_12 (mm_i 0) fun w_13 =>
  mm_cV [] (cl 76 [.ref p_1, .int (mm_i 0), .long (w_4 + w_7), .long (w_10 + w_13)] h) fun h_14 =>
  mm_r16_166 E cl n a0 a1 x2 a3 x4 x5 x6 y7 y9 x11 h_14 := (rfl)
set_option maxRecDepth 20000 in
set_option maxHeartbeats 4000000 in
theorem mm_e16_166 (E : mm_E) (cl : mm_F) (n : Nat) (a0 : Nat) (a1 : Nat) (x2 : Int32) (a3 : Nat) (x4 : Int32) (x5 : Int32) (x6 : Int32) (y7 : Int64) (y9 : Int64) (x11 : Int32) (h : mm_H) :
  mm_r16_166 E cl (n + 1) a0 a1 x2 a3 x4 x5 x6 y7 y9 x11 h =
  mm_gR h a0 1 4 fun p_1 =>
  mm_cV [] (cl 77 [.ref p_1, .int (mm_i 0), .long y7, .long y9] h) fun h_2 =>
  mm_gR h_2 a0 1 4 fun p_3 =>
  mm_gR h_2 p_3 5 0 fun p_4 =>
  mm_rJ h_2 p_4 (mm_i 0) fun w_5 =>
  mm_gR h_2 a0 1 4 fun p_6 =>
  mm_gR h_2 p_6 5 1 fun p_7 =>
  mm_rJ h_2 p_7 (mm_i 0) fun w_8 =>
  mm_r16_46 E cl n a0 a1 x2 a3 x4 x5 x6 w_5 w_8 (x11 + (mm_i (-1))) h_2 := (rfl)
set_option maxRecDepth 20000 in
set_option maxHeartbeats 4000000 in
theorem mm_e16_209 (E : mm_E) (cl : mm_F) (n : Nat) (a0 : Nat) (a1 : Nat) (x2 : Int32) (a3 : Nat) (x4 : Int32) (x5 : Int32) (x6 : Int32) (y7 : Int64) (y9 : Int64) (x11 : Int32) (h : mm_H) :
  mm_r16_209 E cl (n + 1) a0 a1 x2 a3 x4 x5 x6 y7 y9 x11 h =
  (mm_br (x4 ≤ x11) (
  some (.inl none, h)) (
  mm_gR h a3 5 0 fun p_1 =>
    mm_rJ h p_1 x4 fun w_2 =>
    mm_gR h a3 5 1 fun p_3 =>
    mm_rJ h p_3 x4 fun w_4 =>
    mm_cV [] (cl 76 [.ref a3, .int x11, .long w_2, .long w_4] h) fun h_5 =>
    mm_r16_209 E cl n a0 a1 x2 a3 x4 x5 x6 y7 y9 (x11 + (mm_i 1)) h_5)) := (rfl)
-- Best.pickTime
noncomputable def mm_r17_0 (E : mm_E) (cl : mm_F) (n : Nat) (a0 : Nat) (x1 : Int32) (h : mm_H) : mm_R := mm_run E cl mm_m17 n 0 [some (.ref a0), some (.int x1), none, none, none, none, none, none, none, none, none, none] [] h
noncomputable def mm_r17_35 (E : mm_E) (cl : mm_F) (n : Nat) (a0 : Nat) (x1 : Int32) (a2 : Nat) (a3 : Nat) (y4 : Int64) (y6 : Int64) (x8 : Int32) (x9 : Int32) (o10 : Option Value) (o11 : Option Value) (h : mm_H) : mm_R := mm_run E cl mm_m17 n 35 [some (.ref a0), some (.int x1), some (.ref a2), some (.ref a3), some (.long y4), none, some (.long y6), none, some (.int x8), some (.int x9), o10, o11] [] h
noncomputable def mm_r17_67 (E : mm_E) (cl : mm_F) (n : Nat) (a0 : Nat) (x1 : Int32) (a2 : Nat) (a3 : Nat) (y4 : Int64) (y6 : Int64) (x8 : Int32) (x9 : Int32) (y10 : Int64) (h : mm_H) : mm_R := mm_run E cl mm_m17 n 67 [some (.ref a0), some (.int x1), some (.ref a2), some (.ref a3), some (.long y4), none, some (.long y6), none, some (.int x8), some (.int x9), some (.long y10), none] [] h
noncomputable def mm_r17_75 (E : mm_E) (cl : mm_F) (n : Nat) (a0 : Nat) (x1 : Int32) (a2 : Nat) (a3 : Nat) (y4 : Int64) (y6 : Int64) (x8 : Int32) (x9 : Int32) (y10 : Int64) (h : mm_H) : mm_R := mm_run E cl mm_m17 n 75 [some (.ref a0), some (.int x1), some (.ref a2), some (.ref a3), some (.long y4), none, some (.long y6), none, some (.int x8), some (.int x9), some (.long y10), none] [] h
noncomputable def mm_r17_89 (E : mm_E) (cl : mm_F) (n : Nat) (a0 : Nat) (x1 : Int32) (a2 : Nat) (a3 : Nat) (y4 : Int64) (y6 : Int64) (x8 : Int32) (x9 : Int32) (y10 : Int64) (h : mm_H) : mm_R := mm_run E cl mm_m17 n 89 [some (.ref a0), some (.int x1), some (.ref a2), some (.ref a3), some (.long y4), none, some (.long y6), none, some (.int x8), some (.int x9), some (.long y10), none] [] h
set_option maxRecDepth 20000 in
set_option maxHeartbeats 4000000 in
theorem mm_e17_0 (E : mm_E) (cl : mm_F) (n : Nat) (a0 : Nat) (x1 : Int32) (h : mm_H) :
  mm_r17_0 E cl (n + 1) a0 x1 h =
  mm_gR h a0 1 3 fun p_1 =>
  mm_gR h p_1 5 0 fun p_2 =>
  mm_gR h a0 1 3 fun p_3 =>
  mm_gR h p_3 5 1 fun p_4 =>
  mm_r17_35 E cl n a0 x1 p_2 p_4 (mm_j 288230376151711744) (mm_j 0) (mm_mn x1 (mm_i 119)) (mm_i 0) none none h := (rfl)
set_option maxRecDepth 20000 in
set_option maxHeartbeats 4000000 in
theorem mm_e17_35 (E : mm_E) (cl : mm_F) (n : Nat) (a0 : Nat) (x1 : Int32) (a2 : Nat) (a3 : Nat) (y4 : Int64) (y6 : Int64) (x8 : Int32) (x9 : Int32) (o10 : Option Value) (o11 : Option Value) (h : mm_H) :
  mm_r17_35 E cl (n + 1) a0 x1 a2 a3 y4 y6 x8 x9 o10 o11 h =
  (mm_br (x8 < x9) (
  mm_gR h a0 1 4 fun p_1 =>
    mm_cV [] (cl 76 [.ref p_1, .int (mm_i 0), .long y4, .long y6] h) fun h_2 =>
    some (.inl none, h_2)) (
  mm_rJ h a2 x9 fun w_3 =>
    mm_gR h a0 1 5 fun p_4 =>
    mm_rJ h p_4 (x8 - x9) fun w_5 =>
    (mm_br ((lg_cmp (w_3 + w_5) y4) < (mm_i 0)) (
    mm_r17_89 E cl n a0 x1 a2 a3 (w_3 + w_5) y6 x8 x9 (w_3 + w_5) h) (
    mm_r17_67 E cl n a0 x1 a2 a3 y4 y6 x8 x9 (w_3 + w_5) h)))) := (rfl)
set_option maxRecDepth 20000 in
set_option maxHeartbeats 4000000 in
theorem mm_e17_67 (E : mm_E) (cl : mm_F) (n : Nat) (a0 : Nat) (x1 : Int32) (a2 : Nat) (a3 : Nat) (y4 : Int64) (y6 : Int64) (x8 : Int32) (x9 : Int32) (y10 : Int64) (h : mm_H) :
  mm_r17_67 E cl (n + 1) a0 x1 a2 a3 y4 y6 x8 x9 y10 h =
  (mm_br ((lg_cmp y10 y4) = (mm_i 0)) (
  mm_r17_75 E cl n a0 x1 a2 a3 y4 y6 x8 x9 y10 h) (
  mm_r17_35 E cl n a0 x1 a2 a3 y4 y6 x8 (x9 + (mm_i 1)) (some (.long y10)) none h)) := (rfl)
set_option maxRecDepth 20000 in
set_option maxHeartbeats 4000000 in
theorem mm_e17_75 (E : mm_E) (cl : mm_F) (n : Nat) (a0 : Nat) (x1 : Int32) (a2 : Nat) (a3 : Nat) (y4 : Int64) (y6 : Int64) (x8 : Int32) (x9 : Int32) (y10 : Int64) (h : mm_H) :
  mm_r17_75 E cl (n + 1) a0 x1 a2 a3 y4 y6 x8 x9 y10 h =
  mm_rJ h a3 x9 fun w_1 =>
  (mm_br ((mm_i 0) ≤ (lg_cmp w_1 y6)) (
  mm_r17_35 E cl n a0 x1 a2 a3 y4 y6 x8 (x9 + (mm_i 1)) (some (.long y10)) none h) (
  mm_r17_89 E cl n a0 x1 a2 a3 y10 y6 x8 x9 y10 h)) := (rfl)
set_option maxRecDepth 20000 in
set_option maxHeartbeats 4000000 in
theorem mm_e17_89 (E : mm_E) (cl : mm_F) (n : Nat) (a0 : Nat) (x1 : Int32) (a2 : Nat) (a3 : Nat) (y4 : Int64) (y6 : Int64) (x8 : Int32) (x9 : Int32) (y10 : Int64) (h : mm_H) :
  mm_r17_89 E cl (n + 1) a0 x1 a2 a3 y4 y6 x8 x9 y10 h =
  mm_rJ h a3 x9 fun w_1 =>
  mm_r17_35 E cl n a0 x1 a2 a3 y4 w_1 x8 (x9 + (mm_i 1)) (some (.long y10)) none h := (rfl)
-- Best.addLeast
noncomputable def mm_r18_0 (E : mm_E) (cl : mm_F) (n : Nat) (a0 : Nat) (a1 : Nat) (x2 : Int32) (h : mm_H) : mm_R := mm_run E cl mm_m18 n 0 [some (.ref a0), some (.ref a1), some (.int x2), none] [] h
noncomputable def mm_r18_14 (E : mm_E) (cl : mm_F) (n : Nat) (a0 : Nat) (a1 : Nat) (x2 : Int32) (x3 : Int32) (h : mm_H) : mm_R := mm_run E cl mm_m18 n 14 [some (.ref a0), some (.ref a1), some (.int x2), some (.int x3)] [] h
noncomputable def mm_r18_63 (E : mm_E) (cl : mm_F) (n : Nat) (a0 : Nat) (a1 : Nat) (x2 : Int32) (x3 : Int32) (h : mm_H) : mm_R := mm_run E cl mm_m18 n 63 [some (.ref a0), some (.ref a1), some (.int x2), some (.int x3)] [] h
set_option maxRecDepth 20000 in
set_option maxHeartbeats 4000000 in
theorem mm_e18_0 (E : mm_E) (cl : mm_F) (n : Nat) (a0 : Nat) (a1 : Nat) (x2 : Int32) (h : mm_H) :
  mm_r18_0 E cl (n + 1) a0 a1 x2 h =
  mm_gR h a0 1 4 fun p_1 =>
  mm_cV [] (cl 76 [.ref p_1, .int (mm_i 0), .long (mm_j 288230376151711744), .long (mm_j 0)] h) fun h_2 =>
  mm_r18_14 E cl n a0 a1 x2 (mm_i 0) h_2 := (rfl)
set_option maxRecDepth 20000 in
set_option maxHeartbeats 4000000 in
theorem mm_e18_14 (E : mm_E) (cl : mm_F) (n : Nat) (a0 : Nat) (a1 : Nat) (x2 : Int32) (x3 : Int32) (h : mm_H) :
  mm_r18_14 E cl (n + 1) a0 a1 x2 x3 h =
  (mm_br (x2 < x3) (
  mm_gJ h a0 1 8 fun w_1 =>
    mm_gR h a0 1 4 fun p_2 =>
    mm_gR h p_2 5 0 fun p_3 =>
    mm_rJ h p_3 (mm_i 0) fun w_4 =>
    mm_pF h a0 1 8 (.long (w_1 + w_4)) fun h_5 =>
    mm_r18_63 E cl n a0 a1 x2 x3 h_5) (
  mm_gR h a0 1 4 fun p_6 =>
    mm_gR h a1 5 0 fun p_7 =>
    mm_rJ h p_7 x3 fun w_8 =>
    mm_gR h a1 5 1 fun p_9 =>
    mm_rJ h p_9 x3 fun w_10 =>
    mm_cV [] (cl 77 [.ref p_6, .int (mm_i 0), .long w_8, .long w_10] h) fun h_11 =>
    mm_r18_14 E cl n a0 a1 x2 (x3 + (mm_i 1)) h_11)) := (rfl)
set_option maxRecDepth 20000 in
set_option maxHeartbeats 4000000 in
theorem mm_e18_63 (E : mm_E) (cl : mm_F) (n : Nat) (a0 : Nat) (a1 : Nat) (x2 : Int32) (x3 : Int32) (h : mm_H) :
  mm_r18_63 E cl (n + 1) a0 a1 x2 x3 h =
  mm_gJ h a0 1 9 fun w_1 =>
  mm_gR h a0 1 4 fun p_2 =>
  mm_gR h p_2 5 1 fun p_3 =>
  mm_rJ h p_3 (mm_i 0) fun w_4 =>
  mm_pF h a0 1 9 (.long (w_1 + w_4)) fun h_5 =>
  some (.inl none, h_5) := (rfl)
-- Led.init
noncomputable def mm_r19_0 (E : mm_E) (cl : mm_F) (n : Nat) (a0 : Nat) (h : mm_H) : mm_R := mm_run E cl mm_m19 n 0 [some (.ref a0)] [] h
set_option maxRecDepth 20000 in
set_option maxHeartbeats 4000000 in
theorem mm_e19_0 (E : mm_E) (cl : mm_F) (n : Nat) (a0 : Nat) (h : mm_H) :
  mm_r19_0 E cl (n + 1) a0 h =
  mm_nn (mm_i 41) fun k_3 => mm_al h (.inr (.inl (k_3, fun _ => 0))) k_3 fun p_1 h_2 =>
  mm_pF h_2 a0 2 0 (.ref p_1) fun h_4 =>
  mm_nn (mm_i 41) fun k_7 => mm_al h_4 (.inr (.inl (k_7, fun _ => 0))) k_7 fun p_5 h_6 =>
  mm_pF h_6 a0 2 1 (.ref p_5) fun h_8 =>
  mm_pF h_8 a0 2 2 (.int (mm_i 0)) fun h_9 =>
  mm_pF h_9 a0 2 3 (.int (mm_i 0)) fun h_10 =>
  mm_pF h_10 a0 2 4 (.int (mm_i 0)) fun h_11 =>
  some (.inl none, h_11) := (rfl)
-- Led.open
noncomputable def mm_r20_0 (E : mm_E) (cl : mm_F) (n : Nat) (a0 : Nat) (a1 : Nat) (x2 : Int32) (h : mm_H) : mm_R := mm_run E cl mm_m20 n 0 [some (.ref a0), some (.ref a1), some (.int x2), none, none, none, none] [] h
noncomputable def mm_r20_43 (E : mm_E) (cl : mm_F) (n : Nat) (a0 : Nat) (a1 : Nat) (x2 : Int32) (o3 : Option Value) (o4 : Option Value) (o5 : Option Value) (o6 : Option Value) (h : mm_H) : mm_R := mm_run E cl mm_m20 n 43 [some (.ref a0), some (.ref a1), some (.int x2), o3, o4, o5, o6] [] h
noncomputable def mm_r20_52 (E : mm_E) (cl : mm_F) (n : Nat) (a0 : Nat) (a1 : Nat) (x2 : Int32) (x3 : Int32) (x4 : Int32) (o5 : Option Value) (o6 : Option Value) (h : mm_H) : mm_R := mm_run E cl mm_m20 n 52 [some (.ref a0), some (.ref a1), some (.int x2), some (.int x3), some (.int x4), o5, o6] [] h
noncomputable def mm_r20_65 (E : mm_E) (cl : mm_F) (n : Nat) (a0 : Nat) (a1 : Nat) (x2 : Int32) (x3 : Int32) (x4 : Int32) (x5 : Int32) (x6 : Int32) (h : mm_H) : mm_R := mm_run E cl mm_m20 n 65 [some (.ref a0), some (.ref a1), some (.int x2), some (.int x3), some (.int x4), some (.int x5), some (.int x6)] [] h
set_option maxRecDepth 20000 in
set_option maxHeartbeats 4000000 in
theorem mm_e20_0 (E : mm_E) (cl : mm_F) (n : Nat) (a0 : Nat) (a1 : Nat) (x2 : Int32) (h : mm_H) :
  mm_r20_0 E cl (n + 1) a0 a1 x2 h =
  mm_cI [] (cl 51 [.ref a1, .int x2] h) fun v_2 h_1 =>
  mm_pF h_1 a0 2 2 (.int v_2) fun h_3 =>
  mm_gI h_3 a0 2 2 fun v_4 =>
  (mm_br ((mm_i 0) ≤ v_4) (
  mm_gI h_3 a0 2 2 fun v_5 =>
    mm_cI [] (cl 49 [.ref a1, .int x2, .int v_5] h_3) fun v_7 h_6 =>
    mm_pF h_6 a0 2 3 (.int v_7) fun h_8 =>
    mm_gR h_8 a1 3 4 fun p_9 =>
    mm_rI E h_8 p_9 x2 fun v_10 =>
    mm_pF h_8 a0 2 4 (.int v_10) fun h_11 =>
    mm_r20_43 E cl n a0 a1 x2 none none none none h_11) (
  mm_pF h_3 a0 2 3 (.int (mm_i 0)) fun h_12 =>
    mm_gR h_12 a1 3 4 fun p_13 =>
    mm_rI E h_12 p_13 x2 fun v_14 =>
    mm_pF h_12 a0 2 4 (.int v_14) fun h_15 =>
    mm_r20_43 E cl n a0 a1 x2 none none none none h_15)) := (rfl)
set_option maxRecDepth 20000 in
set_option maxHeartbeats 4000000 in
theorem mm_e20_43 (E : mm_E) (cl : mm_F) (n : Nat) (a0 : Nat) (a1 : Nat) (x2 : Int32) (o3 : Option Value) (o4 : Option Value) (o5 : Option Value) (o6 : Option Value) (h : mm_H) :
  mm_r20_43 E cl (n + 1) a0 a1 x2 o3 o4 o5 o6 h =
  mm_cI [] (cl 59 [.ref a1, .int x2] h) fun v_2 h_1 =>
  mm_r20_52 E cl n a0 a1 x2 v_2 (mm_i 0) o5 o6 h_1 := (rfl)
set_option maxRecDepth 20000 in
set_option maxHeartbeats 4000000 in
theorem mm_e20_52 (E : mm_E) (cl : mm_F) (n : Nat) (a0 : Nat) (a1 : Nat) (x2 : Int32) (x3 : Int32) (x4 : Int32) (o5 : Option Value) (o6 : Option Value) (h : mm_H) :
  mm_r20_52 E cl (n + 1) a0 a1 x2 x3 x4 o5 o6 h =
  (mm_br ((mm_i 40) ≤ x4) (
  some (.inl none, h)) (
  mm_r20_65 E cl n a0 a1 x2 x3 x4 (mm_i 0) (mm_i 0) h)) := (rfl)
set_option maxRecDepth 20000 in
set_option maxHeartbeats 4000000 in
theorem mm_e20_65 (E : mm_E) (cl : mm_F) (n : Nat) (a0 : Nat) (a1 : Nat) (x2 : Int32) (x3 : Int32) (x4 : Int32) (x5 : Int32) (x6 : Int32) (h : mm_H) :
  mm_r20_65 E cl (n + 1) a0 a1 x2 x3 x4 x5 x6 h =
  mm_gI h a1 3 10 fun v_1 =>
  (mm_br (v_1 ≤ x6) (
  mm_gR h a0 2 0 fun p_2 =>
    mm_gR h a0 2 0 fun p_3 =>
    mm_rI E h p_3 x4 fun v_4 =>
    mm_wI h p_2 (x4 + (mm_i 1)) (v_4 + x5) fun h_5 =>
    mm_r20_52 E cl n a0 a1 x2 x3 (x4 + (mm_i 1)) (some (.int x5)) (some (.int x6)) h_5) (
  mm_cI [] (cl 61 [.int x3, .int x6] h) fun v_7 h_6 =>
    (mm_br (v_7 = (mm_i 0)) (
    mm_r20_65 E cl n a0 a1 x2 x3 x4 (x5 + (mm_i 0)) (x6 + (mm_i 1)) h_6) (
    mm_gR h_6 a1 3 5 fun p_8 =>
      mm_rI E h_6 p_8 ((x6 * (mm_i 40)) + x4) fun v_9 =>
      mm_r20_65 E cl n a0 a1 x2 x3 x4 (x5 + v_9) (x6 + (mm_i 1)) h_6)))) := (rfl)
