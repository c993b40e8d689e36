/-! EQUATIONS of the runs, part 1 (by program: wip/whole/genpure.py) -/
-- Led.openBounds
noncomputable def mm_r21_0 (E : mm_E) (cl : mm_F) (n : Nat) (a0 : Nat) (a1 : Nat) (x2 : Int32) (h : mm_H) : mm_R := mm_run E cl mm_m21 n 0 [some (.ref a0), some (.ref a1), some (.int x2), none, none] [] h
noncomputable def mm_r21_5 (E : mm_E) (cl : mm_F) (n : Nat) (a0 : Nat) (a1 : Nat) (x2 : Int32) (x3 : Int32) (x4 : Int32) (h : mm_H) : mm_R := mm_run E cl mm_m21 n 5 [some (.ref a0), some (.ref a1), some (.int x2), some (.int x3), some (.int x4)] [] h
noncomputable def mm_r21_24 (E : mm_E) (cl : mm_F) (n : Nat) (a0 : Nat) (a1 : Nat) (x2 : Int32) (x3 : Int32) (x4 : Int32) (h : mm_H) : mm_R := mm_run E cl mm_m21 n 24 [some (.ref a0), some (.ref a1), some (.int x2), some (.int x3), some (.int x4)] [] h
set_option maxRecDepth 20000 in
set_option maxHeartbeats 4000000 in
theorem mm_e21_0 (E : mm_E) (cl : mm_F) (n : Nat) (a0 : Nat) (a1 : Nat) (x2 : Int32) (h : mm_H) :
  mm_r21_0 E cl (n + 1) a0 a1 x2 h =
  mm_r21_5 E cl n a0 a1 x2 (mm_i 0) (mm_i 0) h := (rfl)
set_option maxRecDepth 20000 in
set_option maxHeartbeats 4000000 in
theorem mm_e21_5 (E : mm_E) (cl : mm_F) (n : Nat) (a0 : Nat) (a1 : Nat) (x2 : Int32) (x3 : Int32) (x4 : Int32) (h : mm_H) :
  mm_r21_5 E cl (n + 1) a0 a1 x2 x3 x4 h =
  mm_gR h a0 2 1 fun p_1 =>
  mm_ln E h p_1 fun v_2 =>
  (mm_br (v_2 ≤ x4) (
  some (.inl none, h)) (
  mm_cI [] (cl 48 [.ref a1, .int x3, .int x2, .int x4] h) fun v_4 h_3 =>
    mm_r21_24 E cl n a0 a1 x2 v_4 x4 h_3)) := (rfl)
set_option maxRecDepth 20000 in
set_option maxHeartbeats 4000000 in
theorem mm_e21_24 (E : mm_E) (cl : mm_F) (n : Nat) (a0 : Nat) (a1 : Nat) (x2 : Int32) (x3 : Int32) (x4 : Int32) (h : mm_H) :
  mm_r21_24 E cl (n + 1) a0 a1 x2 x3 x4 h =
  mm_gR h a0 2 1 fun p_1 =>
  mm_gR h a1 3 7 fun p_2 =>
  mm_rI E h p_2 x2 fun v_3 =>
  mm_wI h p_1 x4 ((x4 * v_3) + x3) fun h_4 =>
  mm_r21_5 E cl n a0 a1 x2 x3 (x4 + (mm_i 1)) h_4 := (rfl)
-- Led.calledOn
noncomputable def mm_r22_0 (E : mm_E) (cl : mm_F) (n : Nat) (a0 : Nat) (x1 : Int32) (x2 : Int32) (h : mm_H) : mm_R := mm_run E cl mm_m22 n 0 [some (.ref a0), some (.int x1), some (.int x2)] [] h
set_option maxRecDepth 20000 in
set_option maxHeartbeats 4000000 in
theorem mm_e22_0 (E : mm_E) (cl : mm_F) (n : Nat) (a0 : Nat) (x1 : Int32) (x2 : Int32) (h : mm_H) :
  mm_r22_0 E cl (n + 1) a0 x1 x2 h =
  mm_gR h a0 2 0 fun p_1 =>
  mm_cI [] (cl 28 [.int (x2 + (mm_i 1))] h) fun v_3 h_2 =>
  mm_rI E h_2 p_1 v_3 fun v_4 =>
  mm_gR h_2 a0 2 0 fun p_5 =>
  mm_cI [] (cl 28 [.int x1] h_2) fun v_7 h_6 =>
  mm_rI E h_6 p_5 v_7 fun v_8 =>
  some (.inl (some (.int (v_4 - v_8))), h_6) := (rfl)
-- Led.onHand
noncomputable def mm_r23_0 (E : mm_E) (cl : mm_F) (n : Nat) (a0 : Nat) (x1 : Int32) (h : mm_H) : mm_R := mm_run E cl mm_m23 n 0 [some (.ref a0), some (.int x1), none] [] h
set_option maxRecDepth 20000 in
set_option maxHeartbeats 4000000 in
theorem mm_e23_0 (E : mm_E) (cl : mm_F) (n : Nat) (a0 : Nat) (x1 : Int32) (h : mm_H) :
  mm_r23_0 E cl (n + 1) a0 x1 h =
  mm_gI h a0 2 4 fun v_1 =>
  mm_gI h a0 2 3 fun v_2 =>
  mm_gI h a0 2 2 fun v_3 =>
  mm_cI [] (cl 22 [.ref a0, .int (((x1 - v_1) - v_3) + (mm_i 1)), .int (x1 - v_1)] h) fun v_5 h_4 =>
  some (.inl (some (.int (v_2 - v_5))), h_4) := (rfl)
-- Led.longestBreak
noncomputable def mm_r24_0 (E : mm_E) (cl : mm_F) (n : Nat) (a0 : Nat) (x1 : Int32) (h : mm_H) : mm_R := mm_run E cl mm_m24 n 0 [some (.ref a0), some (.int x1), none] [] h
noncomputable def mm_r24_4 (E : mm_E) (cl : mm_F) (n : Nat) (a0 : Nat) (x1 : Int32) (x2 : Int32) (h : mm_H) : mm_R := mm_run E cl mm_m24 n 4 [some (.ref a0), some (.int x1), some (.int x2)] [] h
set_option maxRecDepth 20000 in
set_option maxHeartbeats 4000000 in
theorem mm_e24_0 (E : mm_E) (cl : mm_F) (n : Nat) (a0 : Nat) (x1 : Int32) (h : mm_H) :
  mm_r24_0 E cl (n + 1) a0 x1 h =
  mm_r24_4 E cl n a0 x1 (x1 + (mm_i 1)) h := (rfl)
set_option maxRecDepth 20000 in
set_option maxHeartbeats 4000000 in
theorem mm_e24_4 (E : mm_E) (cl : mm_F) (n : Nat) (a0 : Nat) (x1 : Int32) (x2 : Int32) (h : mm_H) :
  mm_r24_4 E cl (n + 1) a0 x1 x2 h =
  (mm_br (x2 ≤ (mm_i 0)) (
  some (.inl (some (.int (mm_i 0))), h)) (
  mm_cI [] (cl 22 [.ref a0, .int ((x1 - x2) + (mm_i 1)), .int x1] h) fun v_2 h_1 =>
    mm_gR h_1 a0 2 1 fun p_3 =>
    mm_rI E h_1 p_3 x2 fun v_4 =>
    (mm_br (v_2 ≤ v_4) (
    mm_r24_4 E cl n a0 x1 (x2 + (mm_i (-1))) h_1) (
    some (.inl (some (.int x2)), h_1))))) := (rfl)
-- Led.firstBreak
noncomputable def mm_r25_0 (E : mm_E) (cl : mm_F) (n : Nat) (a0 : Nat) (h : mm_H) : mm_R := mm_run E cl mm_m25 n 0 [some (.ref a0), none] [] h
noncomputable def mm_r25_2 (E : mm_E) (cl : mm_F) (n : Nat) (a0 : Nat) (x1 : Int32) (h : mm_H) : mm_R := mm_run E cl mm_m25 n 2 [some (.ref a0), some (.int x1)] [] h
set_option maxRecDepth 20000 in
set_option maxHeartbeats 4000000 in
theorem mm_e25_0 (E : mm_E) (cl : mm_F) (n : Nat) (a0 : Nat) (h : mm_H) :
  mm_r25_0 E cl (n + 1) a0 h =
  mm_r25_2 E cl n a0 (mm_i 0) h := (rfl)
set_option maxRecDepth 20000 in
set_option maxHeartbeats 4000000 in
theorem mm_e25_2 (E : mm_E) (cl : mm_F) (n : Nat) (a0 : Nat) (x1 : Int32) (h : mm_H) :
  mm_r25_2 E cl (n + 1) a0 x1 h =
  (mm_br ((mm_i 40) ≤ x1) (
  some (.inl (some (.int (mm_i (-1)))), h)) (
  mm_cI [] (cl 24 [.ref a0, .int x1] h) fun v_2 h_1 =>
    (mm_br (v_2 ≤ (mm_i 0)) (
    mm_r25_2 E cl n a0 (x1 + (mm_i 1)) h_1) (
    some (.inl (some (.int x1)), h_1))))) := (rfl)
-- Led.shortDays
noncomputable def mm_r26_0 (E : mm_E) (cl : mm_F) (n : Nat) (a0 : Nat) (h : mm_H) : mm_R := mm_run E cl mm_m26 n 0 [some (.ref a0), none, none] [] h
noncomputable def mm_r26_4 (E : mm_E) (cl : mm_F) (n : Nat) (a0 : Nat) (x1 : Int32) (x2 : Int32) (h : mm_H) : mm_R := mm_run E cl mm_m26 n 4 [some (.ref a0), some (.int x1), some (.int x2)] [] h
set_option maxRecDepth 20000 in
set_option maxHeartbeats 4000000 in
theorem mm_e26_0 (E : mm_E) (cl : mm_F) (n : Nat) (a0 : Nat) (h : mm_H) :
  mm_r26_0 E cl (n + 1) a0 h =
  mm_r26_4 E cl n a0 (mm_i 0) (mm_i 0) h := (rfl)
set_option maxRecDepth 20000 in
set_option maxHeartbeats 4000000 in
theorem mm_e26_4 (E : mm_E) (cl : mm_F) (n : Nat) (a0 : Nat) (x1 : Int32) (x2 : Int32) (h : mm_H) :
  mm_r26_4 E cl (n + 1) a0 x1 x2 h =
  (mm_br ((mm_i 40) ≤ x2) (
  some (.inl (some (.int x1)), h)) (
  mm_cI [] (cl 23 [.ref a0, .int x2] h) fun v_2 h_1 =>
    (mm_br ((mm_i 0) ≤ v_2) (
    mm_r26_4 E cl n a0 (x1 + (mm_i 0)) (x2 + (mm_i 1)) h_1) (
    mm_r26_4 E cl n a0 (x1 + (mm_i 1)) (x2 + (mm_i 1)) h_1)))) := (rfl)
-- Led.leastOnHand
noncomputable def mm_r27_0 (E : mm_E) (cl : mm_F) (n : Nat) (a0 : Nat) (h : mm_H) : mm_R := mm_run E cl mm_m27 n 0 [some (.ref a0), none, none] [] h
noncomputable def mm_r27_8 (E : mm_E) (cl : mm_F) (n : Nat) (a0 : Nat) (x1 : Int32) (x2 : Int32) (h : mm_H) : mm_R := mm_run E cl mm_m27 n 8 [some (.ref a0), some (.int x1), some (.int x2)] [] h
set_option maxRecDepth 20000 in
set_option maxHeartbeats 4000000 in
theorem mm_e27_0 (E : mm_E) (cl : mm_F) (n : Nat) (a0 : Nat) (h : mm_H) :
  mm_r27_0 E cl (n + 1) a0 h =
  mm_cI [] (cl 23 [.ref a0, .int (mm_i 0)] h) fun v_2 h_1 =>
  mm_r27_8 E cl n a0 v_2 (mm_i 1) h_1 := (rfl)
set_option maxRecDepth 20000 in
set_option maxHeartbeats 4000000 in
theorem mm_e27_8 (E : mm_E) (cl : mm_F) (n : Nat) (a0 : Nat) (x1 : Int32) (x2 : Int32) (h : mm_H) :
  mm_r27_8 E cl (n + 1) a0 x1 x2 h =
  (mm_br ((mm_i 40) ≤ x2) (
  some (.inl (some (.int x1)), h)) (
  mm_cI [] (cl 23 [.ref a0, .int x2] h) fun v_2 h_1 =>
    mm_r27_8 E cl n a0 (mm_mn x1 v_2) (x2 + (mm_i 1)) h_1)) := (rfl)
-- Led.inside
noncomputable def mm_r28_0 (E : mm_E) (cl : mm_F) (n : Nat) (x0 : Int32) (h : mm_H) : mm_R := mm_run E cl mm_m28 n 0 [some (.int x0)] [] h
set_option maxRecDepth 20000 in
set_option maxHeartbeats 4000000 in
theorem mm_e28_0 (E : mm_E) (cl : mm_F) (n : Nat) (x0 : Int32) (h : mm_H) :
  mm_r28_0 E cl (n + 1) x0 h =
  some (.inl (some (.int (mm_mx (mm_i 0) (mm_mn x0 (mm_i 40))))), h) := (rfl)
-- Net.init
noncomputable def mm_r29_0 (E : mm_E) (cl : mm_F) (n : Nat) (a0 : Nat) (h : mm_H) : mm_R := mm_run E cl mm_m29 n 0 [some (.ref a0)] [] h
noncomputable def mm_r29_44 (E : mm_E) (cl : mm_F) (n : Nat) (a0 : Nat) (h : mm_H) : mm_R := mm_run E cl mm_m29 n 44 [some (.ref a0)] [] h
noncomputable def mm_r29_85 (E : mm_E) (cl : mm_F) (n : Nat) (a0 : Nat) (h : mm_H) : mm_R := mm_run E cl mm_m29 n 85 [some (.ref a0)] [] h
set_option maxRecDepth 20000 in
set_option maxHeartbeats 4000000 in
theorem mm_e29_0 (E : mm_E) (cl : mm_F) (n : Nat) (a0 : Nat) (h : mm_H) :
  mm_r29_0 E cl (n + 1) a0 h =
  mm_nn (mm_i 84) fun k_3 => mm_al h (.inr (.inl (k_3, fun _ => 0))) k_3 fun p_1 h_2 =>
  mm_pF h_2 a0 3 0 (.ref p_1) fun h_4 =>
  mm_nn (mm_i 72) fun k_7 => mm_al h_4 (.inr (.inl (k_7, fun _ => 0))) k_7 fun p_5 h_6 =>
  mm_pF h_6 a0 3 1 (.ref p_5) fun h_8 =>
  mm_nn (mm_i 12) fun k_11 => mm_al h_8 (.inr (.inl (k_11, fun _ => 0))) k_11 fun p_9 h_10 =>
  mm_pF h_10 a0 3 2 (.ref p_9) fun h_12 =>
  mm_nn (mm_i 12) fun k_15 => mm_al h_12 (.inr (.inl (k_15, fun _ => 0))) k_15 fun p_13 h_14 =>
  mm_pF h_14 a0 3 3 (.ref p_13) fun h_16 =>
  mm_nn (mm_i 12) fun k_19 => mm_al h_16 (.inr (.inl (k_19, fun _ => 0))) k_19 fun p_17 h_18 =>
  mm_pF h_18 a0 3 4 (.ref p_17) fun h_20 =>
  mm_r29_44 E cl n a0 h_20 := (rfl)
set_option maxRecDepth 20000 in
set_option maxHeartbeats 4000000 in
theorem mm_e29_44 (E : mm_E) (cl : mm_F) (n : Nat) (a0 : Nat) (h : mm_H) :
  mm_r29_44 E cl (n + 1) a0 h =
  mm_nn (mm_i 480) fun k_3 => mm_al h (.inr (.inl (k_3, fun _ => 0))) k_3 fun p_1 h_2 =>
  mm_pF h_2 a0 3 5 (.ref p_1) fun h_4 =>
  mm_nn (mm_i 12) fun k_7 => mm_al h_4 (.inr (.inl (k_7, fun _ => 0))) k_7 fun p_5 h_6 =>
  mm_pF h_6 a0 3 6 (.ref p_5) fun h_8 =>
  mm_nn (mm_i 12) fun k_11 => mm_al h_8 (.inr (.inl (k_11, fun _ => 0))) k_11 fun p_9 h_10 =>
  mm_pF h_10 a0 3 7 (.ref p_9) fun h_12 =>
  mm_nn (mm_i 12) fun k_15 => mm_al h_12 (.inr (.inl (k_15, fun _ => 0))) k_15 fun p_13 h_14 =>
  mm_pF h_14 a0 3 8 (.ref p_13) fun h_16 =>
  mm_nn (mm_i 12) fun k_19 => mm_al h_16 (.inr (.inl (k_19, fun _ => 0))) k_19 fun p_17 h_18 =>
  mm_pF h_18 a0 3 9 (.ref p_17) fun h_20 =>
  mm_r29_85 E cl n a0 h_20 := (rfl)
set_option maxRecDepth 20000 in
set_option maxHeartbeats 4000000 in
theorem mm_e29_85 (E : mm_E) (cl : mm_F) (n : Nat) (a0 : Nat) (h : mm_H) :
  mm_r29_85 E cl (n + 1) a0 h =
  mm_pF h a0 3 10 (.int (mm_i 0)) fun h_1 =>
  mm_pF h_1 a0 3 11 (.int (mm_i 165)) fun h_2 =>
  mm_pF h_2 a0 3 12 (.int (mm_i 0)) fun h_3 =>
  some (.inl none, h_3) := (rfl)
-- Net.told
noncomputable def mm_r30_0 (E : mm_E) (cl : mm_F) (n : Nat) (a0 : Nat) (x1 : Int32) (x2 : Int32) (h : mm_H) : mm_R := mm_run E cl mm_m30 n 0 [some (.ref a0), some (.int x1), some (.int x2)] [] h
set_option maxRecDepth 20000 in
set_option maxHeartbeats 4000000 in
theorem mm_e30_0 (E : mm_E) (cl : mm_F) (n : Nat) (a0 : Nat) (x1 : Int32) (x2 : Int32) (h : mm_H) :
  mm_r30_0 E cl (n + 1) a0 x1 x2 h =
  mm_gR h a0 3 0 fun p_1 =>
  mm_rI E h p_1 ((x1 * (mm_i 7)) + x2) fun v_2 =>
  some (.inl (some (.int v_2)), h) := (rfl)
-- Net.tell
noncomputable def mm_r31_0 (E : mm_E) (cl : mm_F) (n : Nat) (a0 : Nat) (x1 : Int32) (x2 : Int32) (x3 : Int32) (h : mm_H) : mm_R := mm_run E cl mm_m31 n 0 [some (.ref a0), some (.int x1), some (.int x2), some (.int x3)] [] h
set_option maxRecDepth 20000 in
set_option maxHeartbeats 4000000 in
theorem mm_e31_0 (E : mm_E) (cl : mm_F) (n : Nat) (a0 : Nat) (x1 : Int32) (x2 : Int32) (x3 : Int32) (h : mm_H) :
  mm_r31_0 E cl (n + 1) a0 x1 x2 x3 h =
  mm_gR h a0 3 0 fun p_1 =>
  mm_wI h p_1 ((x1 * (mm_i 7)) + x2) x3 fun h_2 =>
  some (.inl none, h_2) := (rfl)
-- Net.supplies
noncomputable def mm_r32_0 (E : mm_E) (cl : mm_F) (n : Nat) (a0 : Nat) (x1 : Int32) (x2 : Int32) (h : mm_H) : mm_R := mm_run E cl mm_m32 n 0 [some (.ref a0), some (.int x1), some (.int x2)] [] h
set_option maxRecDepth 20000 in
set_option maxHeartbeats 4000000 in
theorem mm_e32_0 (E : mm_E) (cl : mm_F) (n : Nat) (a0 : Nat) (x1 : Int32) (x2 : Int32) (h : mm_H) :
  mm_r32_0 E cl (n + 1) a0 x1 x2 h =
  mm_gR h a0 3 2 fun p_1 =>
  mm_rI E h p_1 x2 fun v_2 =>
  (mm_br (((v_2 >>> (x1 &&& 31)) &&& (mm_i 1)) = (mm_i 0)) (
  (mm_bz (mm_i 0) (some (.inl (some (.int (mm_i 0))), h)))) (
  (mm_bz (mm_i 1) (some (.inl (some (.int (mm_i 1))), h))))) := (rfl)
-- Net.empty
noncomputable def mm_r33_0 (E : mm_E) (cl : mm_F) (n : Nat) (a0 : Nat) (h : mm_H) : mm_R := mm_run E cl mm_m33 n 0 [some (.ref a0)] [] h
noncomputable def mm_r33_44 (E : mm_E) (cl : mm_F) (n : Nat) (a0 : Nat) (h : mm_H) : mm_R := mm_run E cl mm_m33 n 44 [some (.ref a0)] [] h
set_option maxRecDepth 20000 in
set_option maxHeartbeats 4000000 in
theorem mm_e33_0 (E : mm_E) (cl : mm_F) (n : Nat) (a0 : Nat) (h : mm_H) :
  mm_r33_0 E cl (n + 1) a0 h =
  mm_pF h a0 3 10 (.int (mm_i 0)) fun h_1 =>
  mm_pF h_1 a0 3 11 (.int (mm_i 165)) fun h_2 =>
  mm_gR h_2 a0 3 1 fun p_3 =>
  mm_cV [] (cl 286 [.ref p_3, .int (mm_i 0)] h_2) fun h_4 =>
  mm_gR h_4 a0 3 2 fun p_5 =>
  mm_cV [] (cl 286 [.ref p_5, .int (mm_i 0)] h_4) fun h_6 =>
  mm_gR h_6 a0 3 3 fun p_7 =>
  mm_cV [] (cl 286 [.ref p_7, .int (mm_i 0)] h_6) fun h_8 =>
  mm_gR h_8 a0 3 4 fun p_9 =>
  mm_cV [] (cl 286 [.ref p_9, .int (mm_i 0)] h_8) fun h_10 =>
  mm_r33_44 E cl n a0 h_10 := (rfl)
set_option maxRecDepth 20000 in
set_option maxHeartbeats 4000000 in
theorem mm_e33_44 (E : mm_E) (cl : mm_F) (n : Nat) (a0 : Nat) (h : mm_H) :
  mm_r33_44 E cl (n + 1) a0 h =
  mm_gR h a0 3 5 fun p_1 =>
  mm_cV [] (cl 286 [.ref p_1, .int (mm_i 0)] h) fun h_2 =>
  some (.inl none, h_2) := (rfl)
-- Net.become
noncomputable def mm_r34_0 (E : mm_E) (cl : mm_F) (n : Nat) (a0 : Nat) (a1 : Nat) (h : mm_H) : mm_R := mm_run E cl mm_m34 n 0 [some (.ref a0), some (.ref a1)] [] h
noncomputable def mm_r34_23 (E : mm_E) (cl : mm_F) (n : Nat) (a0 : Nat) (a1 : Nat) (h : mm_H) : mm_R := mm_run E cl mm_m34 n 23 [some (.ref a0), some (.ref a1)] [] h
set_option maxRecDepth 20000 in
set_option maxHeartbeats 4000000 in
theorem mm_e34_0 (E : mm_E) (cl : mm_F) (n : Nat) (a0 : Nat) (a1 : Nat) (h : mm_H) :
  mm_r34_0 E cl (n + 1) a0 a1 h =
  mm_cV [] (cl 35 [.ref a0, .ref a1] h) fun h_1 =>
  mm_gR h_1 a1 3 1 fun p_2 =>
  mm_gR h_1 a0 3 1 fun p_3 =>
  mm_gR h_1 a0 3 1 fun p_4 =>
  mm_ln E h_1 p_4 fun v_5 =>
  mm_cp h_1 p_2 (mm_i 0) p_3 (mm_i 0) v_5 fun h_6 =>
  mm_r34_23 E cl n a0 a1 h_6 := (rfl)
set_option maxRecDepth 20000 in
set_option maxHeartbeats 4000000 in
theorem mm_e34_23 (E : mm_E) (cl : mm_F) (n : Nat) (a0 : Nat) (a1 : Nat) (h : mm_H) :
  mm_r34_23 E cl (n + 1) a0 a1 h =
  mm_gR h a1 3 4 fun p_1 =>
  mm_gR h a0 3 4 fun p_2 =>
  mm_gR h a0 3 4 fun p_3 =>
  mm_ln E h p_3 fun v_4 =>
  mm_cp h p_1 (mm_i 0) p_2 (mm_i 0) v_4 fun h_5 =>
  mm_gR h_5 a1 3 5 fun p_6 =>
  mm_gR h_5 a0 3 5 fun p_7 =>
  mm_gR h_5 a0 3 5 fun p_8 =>
  mm_ln E h_5 p_8 fun v_9 =>
  mm_cp h_5 p_6 (mm_i 0) p_7 (mm_i 0) v_9 fun h_10 =>
  some (.inl none, h_10) := (rfl)
-- Net.becomeNetwork
noncomputable def mm_r35_0 (E : mm_E) (cl : mm_F) (n : Nat) (a0 : Nat) (a1 : Nat) (h : mm_H) : mm_R := mm_run E cl mm_m35 n 0 [some (.ref a0), some (.ref a1)] [] h
noncomputable def mm_r35_34 (E : mm_E) (cl : mm_F) (n : Nat) (a0 : Nat) (a1 : Nat) (h : mm_H) : mm_R := mm_run E cl mm_m35 n 34 [some (.ref a0), some (.ref a1)] [] h
set_option maxRecDepth 20000 in
set_option maxHeartbeats 4000000 in
theorem mm_e35_0 (E : mm_E) (cl : mm_F) (n : Nat) (a0 : Nat) (a1 : Nat) (h : mm_H) :
  mm_r35_0 E cl (n + 1) a0 a1 h =
  mm_gI h a1 3 10 fun v_1 =>
  mm_pF h a0 3 10 (.int v_1) fun h_2 =>
  mm_gI h_2 a1 3 11 fun v_3 =>
  mm_pF h_2 a0 3 11 (.int v_3) fun h_4 =>
  mm_gR h_4 a1 3 0 fun p_5 =>
  mm_gR h_4 a0 3 0 fun p_6 =>
  mm_gR h_4 a0 3 0 fun p_7 =>
  mm_ln E h_4 p_7 fun v_8 =>
  mm_cp h_4 p_5 (mm_i 0) p_6 (mm_i 0) v_8 fun h_9 =>
  mm_r35_34 E cl n a0 a1 h_9 := (rfl)
set_option maxRecDepth 20000 in
set_option maxHeartbeats 4000000 in
theorem mm_e35_34 (E : mm_E) (cl : mm_F) (n : Nat) (a0 : Nat) (a1 : Nat) (h : mm_H) :
  mm_r35_34 E cl (n + 1) a0 a1 h =
  mm_gR h a1 3 2 fun p_1 =>
  mm_gR h a0 3 2 fun p_2 =>
  mm_gR h a0 3 2 fun p_3 =>
  mm_ln E h p_3 fun v_4 =>
  mm_cp h p_1 (mm_i 0) p_2 (mm_i 0) v_4 fun h_5 =>
  mm_gR h_5 a1 3 3 fun p_6 =>
  mm_gR h_5 a0 3 3 fun p_7 =>
  mm_gR h_5 a0 3 3 fun p_8 =>
  mm_ln E h_5 p_8 fun v_9 =>
  mm_cp h_5 p_6 (mm_i 0) p_7 (mm_i 0) v_9 fun h_10 =>
  mm_cV [] (cl 43 [.ref a0] h_10) fun h_11 =>
  some (.inl none, h_11) := (rfl)
-- Net.grow
noncomputable def mm_r36_0 (E : mm_E) (cl : mm_F) (n : Nat) (a0 : Nat) (h : mm_H) : mm_R := mm_run E cl mm_m36 n 0 [some (.ref a0), none, none] [] h
noncomputable def mm_r36_15 (E : mm_E) (cl : mm_F) (n : Nat) (a0 : Nat) (x1 : Int32) (x2 : Int32) (h : mm_H) : mm_R := mm_run E cl mm_m36 n 15 [some (.ref a0), some (.int x1), some (.int x2)] [] h
set_option maxRecDepth 20000 in
set_option maxHeartbeats 4000000 in
theorem mm_e36_0 (E : mm_E) (cl : mm_F) (n : Nat) (a0 : Nat) (h : mm_H) :
  mm_r36_0 E cl (n + 1) a0 h =
  mm_gI h a0 3 10 fun v_1 =>
  (mm_br (v_1 < (mm_i 12)) (
  mm_r36_15 E cl n a0 v_1 (mm_i 0) h) (
  some (.inl (some (.int (mm_i (-1)))), h))) := (rfl)
set_option maxRecDepth 20000 in
set_option maxHeartbeats 4000000 in
theorem mm_e36_15 (E : mm_E) (cl : mm_F) (n : Nat) (a0 : Nat) (x1 : Int32) (x2 : Int32) (h : mm_H) :
  mm_r36_15 E cl (n + 1) a0 x1 x2 h =
  (mm_br ((mm_i 7) ≤ x2) (
  mm_gI h a0 3 10 fun v_1 =>
    mm_pF h a0 3 10 (.int (v_1 + (mm_i 1))) fun h_2 =>
    some (.inl (some (.int x1)), h_2)) (
  (mm_br (x2 = (mm_i 5)) (
    mm_cV [] (cl 31 [.ref a0, .int x1, .int x2, .int (mm_i (-1))] h) fun h_3 =>
      mm_r36_15 E cl n a0 x1 (x2 + (mm_i 1)) h_3) (
    (mm_br (x2 = (mm_i 6)) (
      mm_cV [] (cl 31 [.ref a0, .int x1, .int x2, .int (mm_i (-1))] h) fun h_5 =>
        mm_r36_15 E cl n a0 x1 (x2 + (mm_i 1)) h_5) (
      mm_cV [] (cl 31 [.ref a0, .int x1, .int x2, .int (mm_i 0)] h) fun h_4 =>
        mm_r36_15 E cl n a0 x1 (x2 + (mm_i 1)) h_4)))))) := (rfl)
-- Net.shrink
noncomputable def mm_r37_0 (E : mm_E) (cl : mm_F) (n : Nat) (a0 : Nat) (h : mm_H) : mm_R := mm_run E cl mm_m37 n 0 [some (.ref a0), none] [] h
noncomputable def mm_r37_20 (E : mm_E) (cl : mm_F) (n : Nat) (a0 : Nat) (x1 : Int32) (h : mm_H) : mm_R := mm_run E cl mm_m37 n 20 [some (.ref a0), some (.int x1)] [] h
noncomputable def mm_r37_52 (E : mm_E) (cl : mm_F) (n : Nat) (a0 : Nat) (x1 : Int32) (h : mm_H) : mm_R := mm_run E cl mm_m37 n 52 [some (.ref a0), some (.int x1)] [] h
noncomputable def mm_r37_91 (E : mm_E) (cl : mm_F) (n : Nat) (a0 : Nat) (x1 : Int32) (h : mm_H) : mm_R := mm_run E cl mm_m37 n 91 [some (.ref a0), some (.int x1)] [] h
set_option maxRecDepth 20000 in
set_option maxHeartbeats 4000000 in
theorem mm_e37_0 (E : mm_E) (cl : mm_F) (n : Nat) (a0 : Nat) (h : mm_H) :
  mm_r37_0 E cl (n + 1) a0 h =
  mm_gI h a0 3 10 fun v_1 =>
  (mm_br (v_1 = (mm_i 0)) (
  some (.inl none, h)) (
  mm_gI h a0 3 10 fun v_2 =>
    mm_pF h a0 3 10 (.int (v_2 - (mm_i 1))) fun h_3 =>
    mm_r37_20 E cl n a0 (mm_i 0) h_3)) := (rfl)
set_option maxRecDepth 20000 in
set_option maxHeartbeats 4000000 in
theorem mm_e37_20 (E : mm_E) (cl : mm_F) (n : Nat) (a0 : Nat) (x1 : Int32) (h : mm_H) :
  mm_r37_20 E cl (n + 1) a0 x1 h =
  (mm_br ((mm_i 12) ≤ x1) (
  mm_r37_52 E cl n a0 (mm_i 0) h) (
  mm_gI h a0 3 10 fun v_1 =>
    mm_cV [] (cl 39 [.ref a0, .int x1, .int v_1] h) fun h_2 =>
    mm_gI h_2 a0 3 10 fun v_3 =>
    mm_cV [] (cl 39 [.ref a0, .int v_3, .int x1] h_2) fun h_4 =>
    mm_r37_20 E cl n a0 (x1 + (mm_i 1)) h_4)) := (rfl)
set_option maxRecDepth 20000 in
set_option maxHeartbeats 4000000 in
theorem mm_e37_52 (E : mm_E) (cl : mm_F) (n : Nat) (a0 : Nat) (x1 : Int32) (h : mm_H) :
  mm_r37_52 E cl (n + 1) a0 x1 h =
  (mm_br ((mm_i 6) ≤ x1) (
  mm_gR h a0 3 4 fun p_1 =>
    mm_gI h a0 3 10 fun v_2 =>
    mm_wI h p_1 v_2 (mm_i 0) fun h_3 =>
    mm_r37_91 E cl n a0 (mm_i 0) h_3) (
  mm_gR h a0 3 1 fun p_4 =>
    mm_gI h a0 3 10 fun v_5 =>
    mm_wI h p_4 ((v_5 * (mm_i 6)) + x1) (mm_i 0) fun h_6 =>
    mm_r37_52 E cl n a0 (x1 + (mm_i 1)) h_6)) := (rfl)
set_option maxRecDepth 20000 in
set_option maxHeartbeats 4000000 in
theorem mm_e37_91 (E : mm_E) (cl : mm_F) (n : Nat) (a0 : Nat) (x1 : Int32) (h : mm_H) :
  mm_r37_91 E cl (n + 1) a0 x1 h =
  (mm_br ((mm_i 40) ≤ x1) (
  some (.inl none, h)) (
  mm_gR h a0 3 5 fun p_1 =>
    mm_gI h a0 3 10 fun v_2 =>
    mm_wI h p_1 ((v_2 * (mm_i 40)) + x1) (mm_i 0) fun h_3 =>
    mm_r37_91 E cl n a0 (x1 + (mm_i 1)) h_3)) := (rfl)
-- Net.join
noncomputable def mm_r38_0 (E : mm_E) (cl : mm_F) (n : Nat) (a0 : Nat) (x1 : Int32) (x2 : Int32) (h : mm_H) : mm_R := mm_run E cl mm_m38 n 0 [some (.ref a0), some (.int x1), some (.int x2)] [] h
set_option maxRecDepth 20000 in
set_option maxHeartbeats 4000000 in
theorem mm_e38_0 (E : mm_E) (cl : mm_F) (n : Nat) (a0 : Nat) (x1 : Int32) (x2 : Int32) (h : mm_H) :
  mm_r38_0 E cl (n + 1) a0 x1 x2 h =
  mm_gR h a0 3 2 fun p_1 =>
  mm_rI E h p_1 x2 fun v_2 =>
  mm_wI h p_1 x2 (v_2 ||| ((mm_i 1) <<< (x1 &&& 31))) fun h_3 =>
  mm_gR h_3 a0 3 3 fun p_4 =>
  mm_rI E h_3 p_4 x1 fun v_5 =>
  mm_wI h_3 p_4 x1 (v_5 ||| ((mm_i 1) <<< (x2 &&& 31))) fun h_6 =>
  some (.inl none, h_6) := (rfl)
-- Net.part
noncomputable def mm_r39_0 (E : mm_E) (cl : mm_F) (n : Nat) (a0 : Nat) (x1 : Int32) (x2 : Int32) (h : mm_H) : mm_R := mm_run E cl mm_m39 n 0 [some (.ref a0), some (.int x1), some (.int x2)] [] h
noncomputable def mm_r39_14 (E : mm_E) (cl : mm_F) (n : Nat) (a0 : Nat) (x1 : Int32) (x2 : Int32) (h : mm_H) : mm_R := mm_run E cl mm_m39 n 14 [some (.ref a0), some (.int x1), some (.int x2)] [] h
set_option maxRecDepth 20000 in
set_option maxHeartbeats 4000000 in
theorem mm_e39_0 (E : mm_E) (cl : mm_F) (n : Nat) (a0 : Nat) (x1 : Int32) (x2 : Int32) (h : mm_H) :
  mm_r39_0 E cl (n + 1) a0 x1 x2 h =
  mm_gR h a0 3 2 fun p_1 =>
  mm_rI E h p_1 x2 fun v_2 =>
  mm_wI h p_1 x2 (v_2 &&& (((mm_i 1) <<< (x1 &&& 31)) ^^^ (mm_i (-1)))) fun h_3 =>
  mm_r39_14 E cl n a0 x1 x2 h_3 := (rfl)
set_option maxRecDepth 20000 in
set_option maxHeartbeats 4000000 in
theorem mm_e39_14 (E : mm_E) (cl : mm_F) (n : Nat) (a0 : Nat) (x1 : Int32) (x2 : Int32) (h : mm_H) :
  mm_r39_14 E cl (n + 1) a0 x1 x2 h =
  mm_gR h a0 3 3 fun p_1 =>
  mm_rI E h p_1 x1 fun v_2 =>
  mm_wI h p_1 x1 (v_2 &&& (((mm_i 1) <<< (x2 &&& 31)) ^^^ (mm_i (-1)))) fun h_3 =>
  some (.inl none, h_3) := (rfl)
-- Net.areInOnePart
noncomputable def mm_r40_0 (E : mm_E) (cl : mm_F) (n : Nat) (a0 : Nat) (x1 : Int32) (x2 : Int32) (h : mm_H) : mm_R := mm_run E cl mm_m40 n 0 [some (.ref a0), some (.int x1), some (.int x2), none, none, none] [] h
noncomputable def mm_r40_7 (E : mm_E) (cl : mm_F) (n : Nat) (a0 : Nat) (x1 : Int32) (x2 : Int32) (x3 : Int32) (x4 : Int32) (o5 : Option Value) (h : mm_H) : mm_R := mm_run E cl mm_m40 n 7 [some (.ref a0), some (.int x1), some (.int x2), some (.int x3), some (.int x4), o5] [] h
noncomputable def mm_r40_19 (E : mm_E) (cl : mm_F) (n : Nat) (a0 : Nat) (x1 : Int32) (x2 : Int32) (x3 : Int32) (x4 : Int32) (x5 : Int32) (h : mm_H) : mm_R := mm_run E cl mm_m40 n 19 [some (.ref a0), some (.int x1), some (.int x2), some (.int x3), some (.int x4), some (.int x5)] [] h
set_option maxRecDepth 20000 in
set_option maxHeartbeats 4000000 in
theorem mm_e40_0 (E : mm_E) (cl : mm_F) (n : Nat) (a0 : Nat) (x1 : Int32) (x2 : Int32) (h : mm_H) :
  mm_r40_0 E cl (n + 1) a0 x1 x2 h =
  mm_r40_7 E cl n a0 x1 x2 ((mm_i 1) <<< (x1 &&& 31)) (mm_i 0) none h := (rfl)
set_option maxRecDepth 20000 in
set_option maxHeartbeats 4000000 in
theorem mm_e40_7 (E : mm_E) (cl : mm_F) (n : Nat) (a0 : Nat) (x1 : Int32) (x2 : Int32) (x3 : Int32) (x4 : Int32) (o5 : Option Value) (h : mm_H) :
  mm_r40_7 E cl (n + 1) a0 x1 x2 x3 x4 o5 h =
  mm_gI h a0 3 10 fun v_1 =>
  (mm_br (v_1 ≤ x4) (
  mm_cI [] (cl 61 [.int x3, .int x2] h) fun v_3 h_2 =>
    (mm_bz v_3 (some (.inl (some (.int v_3)), h_2)))) (
  mm_r40_19 E cl n a0 x1 x2 x3 x4 (mm_i 0) h)) := (rfl)
set_option maxRecDepth 20000 in
set_option maxHeartbeats 4000000 in
theorem mm_e40_19 (E : mm_E) (cl : mm_F) (n : Nat) (a0 : Nat) (x1 : Int32) (x2 : Int32) (x3 : Int32) (x4 : Int32) (x5 : Int32) (h : mm_H) :
  mm_r40_19 E cl (n + 1) a0 x1 x2 x3 x4 x5 h =
  mm_gI h a0 3 10 fun v_1 =>
  (mm_br (v_1 ≤ x5) (
  mm_r40_7 E cl n a0 x1 x2 x3 (x4 + (mm_i 1)) (some (.int x5)) h) (
  mm_cI [] (cl 61 [.int x3, .int x5] h) fun v_3 h_2 =>
    (mm_br (v_3 = (mm_i 0)) (
    mm_r40_19 E cl n a0 x1 x2 (x3 ||| (mm_i 0)) x4 (x5 + (mm_i 1)) h_2) (
    mm_gR h_2 a0 3 2 fun p_4 =>
      mm_rI E h_2 p_4 x5 fun v_5 =>
      mm_gR h_2 a0 3 3 fun p_6 =>
      mm_rI E h_2 p_6 x5 fun v_7 =>
      mm_r40_19 E cl n a0 x1 x2 (x3 ||| (v_5 ||| v_7)) x4 (x5 + (mm_i 1)) h_2)))) := (rfl)
-- Net.supplyCount
noncomputable def mm_r41_0 (E : mm_E) (cl : mm_F) (n : Nat) (a0 : Nat) (h : mm_H) : mm_R := mm_run E cl mm_m41 n 0 [some (.ref a0), none, none] [] h
noncomputable def mm_r41_4 (E : mm_E) (cl : mm_F) (n : Nat) (a0 : Nat) (x1 : Int32) (x2 : Int32) (h : mm_H) : mm_R := mm_run E cl mm_m41 n 4 [some (.ref a0), some (.int x1), some (.int x2)] [] h
set_option maxRecDepth 20000 in
set_option maxHeartbeats 4000000 in
theorem mm_e41_0 (E : mm_E) (cl : mm_F) (n : Nat) (a0 : Nat) (h : mm_H) :
  mm_r41_0 E cl (n + 1) a0 h =
  mm_r41_4 E cl n a0 (mm_i 0) (mm_i 0) h := (rfl)
set_option maxRecDepth 20000 in
set_option maxHeartbeats 4000000 in
theorem mm_e41_4 (E : mm_E) (cl : mm_F) (n : Nat) (a0 : Nat) (x1 : Int32) (x2 : Int32) (h : mm_H) :
  mm_r41_4 E cl (n + 1) a0 x1 x2 h =
  mm_gI h a0 3 10 fun v_1 =>
  (mm_br (v_1 ≤ x2) (
  some (.inl (some (.int x1)), h)) (
  mm_gR h a0 3 2 fun p_2 =>
    mm_rI E h p_2 x2 fun v_3 =>
    mm_cI [] (cl 283 [.int v_3] h) fun v_5 h_4 =>
    mm_r41_4 E cl n a0 (x1 + v_5) (x2 + (mm_i 1)) h_4)) := (rfl)
-- Net.pinCount
noncomputable def mm_r42_0 (E : mm_E) (cl : mm_F) (n : Nat) (a0 : Nat) (h : mm_H) : mm_R := mm_run E cl mm_m42 n 0 [some (.ref a0), none, none] [] h
noncomputable def mm_r42_4 (E : mm_E) (cl : mm_F) (n : Nat) (a0 : Nat) (x1 : Int32) (x2 : Int32) (h : mm_H) : mm_R := mm_run E cl mm_m42 n 4 [some (.ref a0), some (.int x1), some (.int x2)] [] h
set_option maxRecDepth 20000 in
set_option maxHeartbeats 4000000 in
theorem mm_e42_0 (E : mm_E) (cl : mm_F) (n : Nat) (a0 : Nat) (h : mm_H) :
  mm_r42_0 E cl (n + 1) a0 h =
  mm_r42_4 E cl n a0 (mm_i 0) (mm_i 0) h := (rfl)
set_option maxRecDepth 20000 in
set_option maxHeartbeats 4000000 in
theorem mm_e42_4 (E : mm_E) (cl : mm_F) (n : Nat) (a0 : Nat) (x1 : Int32) (x2 : Int32) (h : mm_H) :
  mm_r42_4 E cl (n + 1) a0 x1 x2 h =
  mm_gI h a0 3 10 fun v_1 =>
  (mm_br (v_1 ≤ x2) (
  some (.inl (some (.int x1)), h)) (
  mm_cI [] (cl 30 [.ref a0, .int x2, .int (mm_i 6)] h) fun v_3 h_2 =>
    (mm_br (v_3 = (mm_i (-1))) (
    mm_r42_4 E cl n a0 (x1 + (mm_i 0)) (x2 + (mm_i 1)) h_2) (
    mm_r42_4 E cl n a0 (x1 + (mm_i 1)) (x2 + (mm_i 1)) h_2)))) := (rfl)
-- Net.settle
noncomputable def mm_r43_0 (E : mm_E) (cl : mm_F) (n : Nat) (a0 : Nat) (h : mm_H) : mm_R := mm_run E cl mm_m43 n 0 [some (.ref a0), none] [] h
noncomputable def mm_r43_16 (E : mm_E) (cl : mm_F) (n : Nat) (a0 : Nat) (x1 : Int32) (h : mm_H) : mm_R := mm_run E cl mm_m43 n 16 [some (.ref a0), some (.int x1)] [] h
noncomputable def mm_r43_47 (E : mm_E) (cl : mm_F) (n : Nat) (a0 : Nat) (x1 : Int32) (h : mm_H) : mm_R := mm_run E cl mm_m43 n 47 [some (.ref a0), some (.int x1)] [] h
set_option maxRecDepth 20000 in
set_option maxHeartbeats 4000000 in
theorem mm_e43_0 (E : mm_E) (cl : mm_F) (n : Nat) (a0 : Nat) (h : mm_H) :
  mm_r43_0 E cl (n + 1) a0 h =
  mm_gI h a0 3 12 fun v_1 =>
  mm_pF h a0 3 12 (.int (v_1 + (mm_i 1))) fun h_2 =>
  mm_cV [] (cl 44 [.ref a0] h_2) fun h_3 =>
  mm_r43_16 E cl n a0 (mm_i 0) h_3 := (rfl)
set_option maxRecDepth 20000 in
set_option maxHeartbeats 4000000 in
theorem mm_e43_16 (E : mm_E) (cl : mm_F) (n : Nat) (a0 : Nat) (x1 : Int32) (h : mm_H) :
  mm_r43_16 E cl (n + 1) a0 x1 h =
  mm_gI h a0 3 10 fun v_1 =>
  (mm_br (v_1 ≤ x1) (
  mm_gI h a0 3 10 fun v_2 =>
    mm_r43_47 E cl n a0 (v_2 - (mm_i 1)) h) (
  mm_gR h a0 3 6 fun p_3 =>
    mm_rI E h p_3 x1 fun v_4 =>
    mm_cV [] (cl 45 [.ref a0, .int v_4] h) fun h_5 =>
    mm_r43_16 E cl n a0 (x1 + (mm_i 1)) h_5)) := (rfl)
set_option maxRecDepth 20000 in
set_option maxHeartbeats 4000000 in
theorem mm_e43_47 (E : mm_E) (cl : mm_F) (n : Nat) (a0 : Nat) (x1 : Int32) (h : mm_H) :
  mm_r43_47 E cl (n + 1) a0 x1 h =
  (mm_br (x1 < (mm_i 0)) (
  some (.inl none, h)) (
  mm_gR h a0 3 6 fun p_1 =>
    mm_rI E h p_1 x1 fun v_2 =>
    mm_cV [] (cl 46 [.ref a0, .int v_2] h) fun h_3 =>
    mm_r43_47 E cl n a0 (x1 + (mm_i (-1))) h_3)) := (rfl)
-- Net.sortSuppliersAhead
noncomputable def mm_r44_0 (E : mm_E) (cl : mm_F) (n : Nat) (a0 : Nat) (h : mm_H) : mm_R := mm_run E cl mm_m44 n 0 [some (.ref a0), none, none, none, none] [] h
noncomputable def mm_r44_6 (E : mm_E) (cl : mm_F) (n : Nat) (a0 : Nat) (x1 : Int32) (x2 : Int32) (x3 : Int32) (o4 : Option Value) (h : mm_H) : mm_R := mm_run E cl mm_m44 n 6 [some (.ref a0), some (.int x1), some (.int x2), some (.int x3), o4] [] h
noncomputable def mm_r44_25 (E : mm_E) (cl : mm_F) (n : Nat) (a0 : Nat) (x1 : Int32) (x2 : Int32) (x3 : Int32) (x4 : Int32) (h : mm_H) : mm_R := mm_run E cl mm_m44 n 25 [some (.ref a0), some (.int x1), some (.int x2), some (.int x3), some (.int x4)] [] h
noncomputable def mm_r44_63 (E : mm_E) (cl : mm_F) (n : Nat) (a0 : Nat) (x1 : Int32) (x2 : Int32) (x3 : Int32) (x4 : Int32) (h : mm_H) : mm_R := mm_run E cl mm_m44 n 63 [some (.ref a0), some (.int x1), some (.int x2), some (.int x3), some (.int x4)] [] h
set_option maxRecDepth 20000 in
set_option maxHeartbeats 4000000 in
theorem mm_e44_0 (E : mm_E) (cl : mm_F) (n : Nat) (a0 : Nat) (h : mm_H) :
  mm_r44_0 E cl (n + 1) a0 h =
  mm_r44_6 E cl n a0 (mm_i 0) (mm_i 0) (mm_i 0) none h := (rfl)
set_option maxRecDepth 20000 in
set_option maxHeartbeats 4000000 in
theorem mm_e44_6 (E : mm_E) (cl : mm_F) (n : Nat) (a0 : Nat) (x1 : Int32) (x2 : Int32) (x3 : Int32) (o4 : Option Value) (h : mm_H) :
  mm_r44_6 E cl (n + 1) a0 x1 x2 x3 o4 h =
  mm_gI h a0 3 10 fun v_1 =>
  (mm_br (v_1 ≤ x3) (
  some (.inl none, h)) (
  mm_gI h a0 3 10 fun v_2 =>
    (mm_br (v_2 ≤ x2) (
    some (.inl none, h)) (
    mm_r44_25 E cl n a0 x1 x2 x3 (mm_i 0) h)))) := (rfl)
set_option maxRecDepth 20000 in
set_option maxHeartbeats 4000000 in
theorem mm_e44_25 (E : mm_E) (cl : mm_F) (n : Nat) (a0 : Nat) (x1 : Int32) (x2 : Int32) (x3 : Int32) (x4 : Int32) (h : mm_H) :
  mm_r44_25 E cl (n + 1) a0 x1 x2 x3 x4 h =
  mm_gI h a0 3 10 fun v_1 =>
  (mm_br (v_1 ≤ x4) (
  mm_r44_6 E cl n a0 x1 x2 (x3 + (mm_i 1)) (some (.int x4)) h) (
  (mm_br ((mm_i 12) ≤ x2) (
    mm_r44_25 E cl n a0 x1 x2 x3 (x4 + (mm_i 1)) h) (
    mm_cI [] (cl 61 [.int x1, .int x4] h) fun v_3 h_2 =>
      (mm_br (v_3 = (mm_i 0)) (
      mm_gR h_2 a0 3 2 fun p_4 =>
        mm_rI E h_2 p_4 x4 fun v_5 =>
        (mm_br ((v_5 &&& (x1 ^^^ (mm_i (-1)))) = (mm_i 0)) (
        mm_r44_63 E cl n a0 x1 x2 x3 x4 h_2) (
        mm_r44_25 E cl n a0 x1 x2 x3 (x4 + (mm_i 1)) h_2))) (
      mm_r44_25 E cl n a0 x1 x2 x3 (x4 + (mm_i 1)) h_2)))))) := (rfl)
set_option maxRecDepth 20000 in
set_option maxHeartbeats 4000000 in
theorem mm_e44_63 (E : mm_E) (cl : mm_F) (n : Nat) (a0 : Nat) (x1 : Int32) (x2 : Int32) (x3 : Int32) (x4 : Int32) (h : mm_H) :
  mm_r44_63 E cl (n + 1) a0 x1 x2 x3 x4 h =
  mm_gR h a0 3 6 fun p_1 =>
  mm_wI h p_1 x2 x4 fun h_2 =>
  mm_r44_25 E cl n a0 (x1 ||| ((mm_i 1) <<< (x4 &&& 31))) (x2 + (mm_i 1)) x3 (x4 + (mm_i 1)) h_2 := (rfl)
-- Net.settleLongest
noncomputable def mm_r45_0 (E : mm_E) (cl : mm_F) (n : Nat) (a0 : Nat) (x1 : Int32) (h : mm_H) : mm_R := mm_run E cl mm_m45 n 0 [some (.ref a0), some (.int x1), none, none] [] h
noncomputable def mm_r45_9 (E : mm_E) (cl : mm_F) (n : Nat) (a0 : Nat) (x1 : Int32) (x2 : Int32) (x3 : Int32) (h : mm_H) : mm_R := mm_run E cl mm_m45 n 9 [some (.ref a0), some (.int x1), some (.int x2), some (.int x3)] [] h
set_option maxRecDepth 20000 in
set_option maxHeartbeats 4000000 in
theorem mm_e45_0 (E : mm_E) (cl : mm_F) (n : Nat) (a0 : Nat) (x1 : Int32) (h : mm_H) :
  mm_r45_0 E cl (n + 1) a0 x1 h =
  mm_cI [] (cl 30 [.ref a0, .int x1, .int (mm_i 2)] h) fun v_2 h_1 =>
  mm_r45_9 E cl n a0 x1 v_2 (mm_i 0) h_1 := (rfl)
set_option maxRecDepth 20000 in
set_option maxHeartbeats 4000000 in
theorem mm_e45_9 (E : mm_E) (cl : mm_F) (n : Nat) (a0 : Nat) (x1 : Int32) (x2 : Int32) (x3 : Int32) (h : mm_H) :
  mm_r45_9 E cl (n + 1) a0 x1 x2 x3 h =
  mm_gI h a0 3 10 fun v_1 =>
  (mm_br (v_1 ≤ x3) (
  mm_gR h a0 3 9 fun p_2 =>
    mm_cI [] (cl 30 [.ref a0, .int x1, .int (mm_i 0)] h) fun v_4 h_3 =>
    mm_wI h_3 p_2 x1 (mm_mn (x2 + v_4) (mm_i 119)) fun h_5 =>
    some (.inl none, h_5)) (
  mm_cI [] (cl 32 [.ref a0, .int x3, .int x1] h) fun v_7 h_6 =>
    (mm_br (v_7 = (mm_i 0)) (
    mm_r45_9 E cl n a0 x1 x2 (x3 + (mm_i 1)) h_6) (
    mm_gR h_6 a0 3 9 fun p_8 =>
      mm_rI E h_6 p_8 x3 fun v_9 =>
      mm_r45_9 E cl n a0 x1 (mm_mx x2 v_9) (x3 + (mm_i 1)) h_6)))) := (rfl)
-- Net.settleFlow
noncomputable def mm_r46_0 (E : mm_E) (cl : mm_F) (n : Nat) (a0 : Nat) (x1 : Int32) (h : mm_H) : mm_R := mm_run E cl mm_m46 n 0 [some (.ref a0), some (.int x1), none] [] h
noncomputable def mm_r46_26 (E : mm_E) (cl : mm_F) (n : Nat) (a0 : Nat) (x1 : Int32) (x2 : Int32) (h : mm_H) : mm_R := mm_run E cl mm_m46 n 26 [some (.ref a0), some (.int x1), some (.int x2)] [] h
noncomputable def mm_r46_58 (E : mm_E) (cl : mm_F) (n : Nat) (a0 : Nat) (x1 : Int32) (x2 : Int32) (h : mm_H) : mm_R := mm_run E cl mm_m46 n 58 [some (.ref a0), some (.int x1), some (.int x2)] [] h
set_option maxRecDepth 20000 in
set_option maxHeartbeats 4000000 in
theorem mm_e46_0 (E : mm_E) (cl : mm_F) (n : Nat) (a0 : Nat) (x1 : Int32) (h : mm_H) :
  mm_r46_0 E cl (n + 1) a0 x1 h =
  mm_gR h a0 3 7 fun p_1 =>
  mm_cI [] (cl 30 [.ref a0, .int x1, .int (mm_i 3)] h) fun v_3 h_2 =>
  mm_wI h_2 p_1 x1 v_3 fun h_4 =>
  mm_gR h_4 a0 3 8 fun p_5 =>
  mm_cI [] (cl 30 [.ref a0, .int x1, .int (mm_i 4)] h_4) fun v_7 h_6 =>
  mm_wI h_6 p_5 x1 v_7 fun h_8 =>
  mm_r46_26 E cl n a0 x1 (mm_i 0) h_8 := (rfl)
set_option maxRecDepth 20000 in
set_option maxHeartbeats 4000000 in
theorem mm_e46_26 (E : mm_E) (cl : mm_F) (n : Nat) (a0 : Nat) (x1 : Int32) (x2 : Int32) (h : mm_H) :
  mm_r46_26 E cl (n + 1) a0 x1 x2 h =
  mm_gI h a0 3 10 fun v_1 =>
  (mm_br (v_1 ≤ x2) (
  some (.inl none, h)) (
  mm_cI [] (cl 32 [.ref a0, .int x1, .int x2] h) fun v_3 h_2 =>
    (mm_br (v_3 = (mm_i 0)) (
    mm_r46_26 E cl n a0 x1 (x2 + (mm_i 1)) h_2) (
    mm_gR h_2 a0 3 7 fun p_4 =>
      mm_rI E h_2 p_4 x1 fun v_5 =>
      mm_gR h_2 a0 3 7 fun p_6 =>
      mm_rI E h_2 p_6 x2 fun v_7 =>
      mm_wI h_2 p_4 x1 (v_5 + v_7) fun h_8 =>
      mm_r46_58 E cl n a0 x1 x2 h_8)))) := (rfl)
set_option maxRecDepth 20000 in
set_option maxHeartbeats 4000000 in
theorem mm_e46_58 (E : mm_E) (cl : mm_F) (n : Nat) (a0 : Nat) (x1 : Int32) (x2 : Int32) (h : mm_H) :
  mm_r46_58 E cl (n + 1) a0 x1 x2 h =
  mm_gR h a0 3 8 fun p_1 =>
  mm_rI E h p_1 x1 fun v_2 =>
  mm_gR h a0 3 8 fun p_3 =>
  mm_rI E h p_3 x2 fun v_4 =>
  mm_wI h p_1 x1 (v_2 + v_4) fun h_5 =>
  mm_r46_26 E cl n a0 x1 (x2 + (mm_i 1)) h_5 := (rfl)
-- Net.rootBy
noncomputable def mm_r47_0 (E : mm_E) (cl : mm_F) (n : Nat) (a0 : Nat) (x1 : Int32) (x2 : Int32) (h : mm_H) : mm_R := mm_run E cl mm_m47 n 0 [some (.ref a0), some (.int x1), some (.int x2)] [] h
set_option maxRecDepth 20000 in
set_option maxHeartbeats 4000000 in
theorem mm_e47_0 (E : mm_E) (cl : mm_F) (n : Nat) (a0 : Nat) (x1 : Int32) (x2 : Int32) (h : mm_H) :
  mm_r47_0 E cl (n + 1) a0 x1 x2 h =
  mm_cI [] (cl 48 [.ref a0, .int (mm_i 0), .int x1, .int x2] h) fun v_2 h_1 =>
  some (.inl (some (.int v_2)), h_1) := (rfl)
-- Net.rootFrom
noncomputable def mm_r48_0 (E : mm_E) (cl : mm_F) (n : Nat) (a0 : Nat) (x1 : Int32) (x2 : Int32) (x3 : Int32) (h : mm_H) : mm_R := mm_run E cl mm_m48 n 0 [some (.ref a0), some (.int x1), some (.int x2), some (.int x3), none, none, none, none, none, none] [] h
noncomputable def mm_r48_33 (E : mm_E) (cl : mm_F) (n : Nat) (a0 : Nat) (x1 : Int32) (x2 : Int32) (x3 : Int32) (y4 : Int64) (x6 : Int32) (x7 : Int32) (x8 : Int32) (o9 : Option Value) (h : mm_H) : mm_R := mm_run E cl mm_m48 n 33 [some (.ref a0), some (.int x1), some (.int x2), some (.int x3), some (.long y4), none, some (.int x6), some (.int x7), some (.int x8), o9] [] h
noncomputable def mm_r48_81 (E : mm_E) (cl : mm_F) (n : Nat) (a0 : Nat) (x1 : Int32) (x2 : Int32) (x3 : Int32) (y4 : Int64) (x6 : Int32) (x7 : Int32) (x8 : Int32) (o9 : Option Value) (h : mm_H) : mm_R := mm_run E cl mm_m48 n 81 [some (.ref a0), some (.int x1), some (.int x2), some (.int x3), some (.long y4), none, some (.int x6), some (.int x7), some (.int x8), o9] [] h
set_option maxRecDepth 20000 in
set_option maxHeartbeats 4000000 in
theorem mm_e48_0 (E : mm_E) (cl : mm_F) (n : Nat) (a0 : Nat) (x1 : Int32) (x2 : Int32) (x3 : Int32) (h : mm_H) :
  mm_r48_0 E cl (n + 1) a0 x1 x2 x3 h =
  mm_gI h a0 3 11 fun v_1 =>
  mm_gI h a0 3 11 fun v_2 =>
  mm_gR h a0 3 8 fun p_3 =>
  mm_rI E h p_3 x2 fun v_4 =>
  mm_r48_33 E cl n a0 x1 x2 x3 ((((Int32.toInt64 v_1) * (Int32.toInt64 v_2)) * (Int32.toInt64 v_4)) * (Int32.toInt64 x3)) x1 x1 (mm_i 0) none h := (rfl)
set_option maxRecDepth 20000 in
set_option maxHeartbeats 4000000 in
theorem mm_e48_33 (E : mm_E) (cl : mm_F) (n : Nat) (a0 : Nat) (x1 : Int32) (x2 : Int32) (x3 : Int32) (y4 : Int64) (x6 : Int32) (x7 : Int32) (x8 : Int32) (o9 : Option Value) (h : mm_H) :
  mm_r48_33 E cl (n + 1) a0 x1 x2 x3 y4 x6 x7 x8 o9 h =
  (mm_br ((mm_i 20) ≤ x8) (
  mm_r48_81 E cl n a0 x1 x2 x3 y4 x6 x7 (mm_i 0) o9 h) (
  (mm_br ((mm_i 0) ≤ (lg_cmp (((mm_j 10000) * (Int32.toInt64 x7)) * (Int32.toInt64 x7)) y4)) (
    mm_r48_81 E cl n a0 x1 x2 x3 y4 x6 x7 (mm_i 0) o9 h) (
    mm_r48_33 E cl n a0 x1 x2 x3 y4 (x7 + (mm_i 1)) (x7 + ((mm_i 1) <<< (x8 &&& 31))) (x8 + (mm_i 1)) o9 h)))) := (rfl)
set_option maxRecDepth 20000 in
set_option maxHeartbeats 4000000 in
theorem mm_e48_81 (E : mm_E) (cl : mm_F) (n : Nat) (a0 : Nat) (x1 : Int32) (x2 : Int32) (x3 : Int32) (y4 : Int64) (x6 : Int32) (x7 : Int32) (x8 : Int32) (o9 : Option Value) (h : mm_H) :
  mm_r48_81 E cl (n + 1) a0 x1 x2 x3 y4 x6 x7 x8 o9 h =
  (mm_br ((mm_i 20) ≤ x8) (
  some (.inl (some (.int x6)), h)) (
  (mm_br (x7 ≤ x6) (
    some (.inl (some (.int x6)), h)) (
    (mm_nz (mm_i 2) (
      (mm_br ((lg_cmp (((mm_j 10000) * (Int32.toInt64 ((x6 + x7) / (mm_i 2)))) * (Int32.toInt64 ((x6 + x7) / (mm_i 2)))) y4) < (mm_i 0)) (
      mm_r48_81 E cl n a0 x1 x2 x3 y4 (((x6 + x7) / (mm_i 2)) + (mm_i 1)) x7 (x8 + (mm_i 1)) (some (.int ((x6 + x7) / (mm_i 2)))) h) (
      mm_r48_81 E cl n a0 x1 x2 x3 y4 x6 ((x6 + x7) / (mm_i 2)) (x8 + (mm_i 1)) (some (.int ((x6 + x7) / (mm_i 2)))) h)))))))) := (rfl)
-- Net.boundBy
noncomputable def mm_r49_0 (E : mm_E) (cl : mm_F) (n : Nat) (a0 : Nat) (x1 : Int32) (x2 : Int32) (h : mm_H) : mm_R := mm_run E cl mm_m49 n 0 [some (.ref a0), some (.int x1), some (.int x2)] [] h
set_option maxRecDepth 20000 in
set_option maxHeartbeats 4000000 in
theorem mm_e49_0 (E : mm_E) (cl : mm_F) (n : Nat) (a0 : Nat) (x1 : Int32) (x2 : Int32) (h : mm_H) :
  mm_r49_0 E cl (n + 1) a0 x1 x2 h =
  mm_gR h a0 3 7 fun p_1 =>
  mm_rI E h p_1 x1 fun v_2 =>
  mm_cI [] (cl 47 [.ref a0, .int x1, .int x2] h) fun v_4 h_3 =>
  some (.inl (some (.int ((x2 * v_2) + v_4))), h_3) := (rfl)
-- Net.waitOf
noncomputable def mm_r50_0 (E : mm_E) (cl : mm_F) (n : Nat) (a0 : Nat) (x1 : Int32) (h : mm_H) : mm_R := mm_run E cl mm_m50 n 0 [some (.ref a0), some (.int x1), none, none] [] h
noncomputable def mm_r50_9 (E : mm_E) (cl : mm_F) (n : Nat) (a0 : Nat) (x1 : Int32) (x2 : Int32) (x3 : Int32) (h : mm_H) : mm_R := mm_run E cl mm_m50 n 9 [some (.ref a0), some (.int x1), some (.int x2), some (.int x3)] [] h
set_option maxRecDepth 20000 in
set_option maxHeartbeats 4000000 in
theorem mm_e50_0 (E : mm_E) (cl : mm_F) (n : Nat) (a0 : Nat) (x1 : Int32) (h : mm_H) :
  mm_r50_0 E cl (n + 1) a0 x1 h =
  mm_cI [] (cl 30 [.ref a0, .int x1, .int (mm_i 2)] h) fun v_2 h_1 =>
  mm_r50_9 E cl n a0 x1 v_2 (mm_i 0) h_1 := (rfl)
set_option maxRecDepth 20000 in
set_option maxHeartbeats 4000000 in
theorem mm_e50_9 (E : mm_E) (cl : mm_F) (n : Nat) (a0 : Nat) (x1 : Int32) (x2 : Int32) (x3 : Int32) (h : mm_H) :
  mm_r50_9 E cl (n + 1) a0 x1 x2 x3 h =
  mm_gI h a0 3 10 fun v_1 =>
  (mm_br (v_1 ≤ x3) (
  some (.inl (some (.int x2)), h)) (
  mm_cI [] (cl 32 [.ref a0, .int x3, .int x1] h) fun v_3 h_2 =>
    (mm_br (v_3 = (mm_i 0)) (
    mm_r50_9 E cl n a0 x1 x2 (x3 + (mm_i 1)) h_2) (
    mm_gR h_2 a0 3 4 fun p_4 =>
      mm_rI E h_2 p_4 x3 fun v_5 =>
      mm_r50_9 E cl n a0 x1 (mm_mx x2 v_5) (x3 + (mm_i 1)) h_2)))) := (rfl)
-- Net.netOf
noncomputable def mm_r51_0 (E : mm_E) (cl : mm_F) (n : Nat) (a0 : Nat) (x1 : Int32) (h : mm_H) : mm_R := mm_run E cl mm_m51 n 0 [some (.ref a0), some (.int x1)] [] h
set_option maxRecDepth 20000 in
set_option maxHeartbeats 4000000 in
theorem mm_e51_0 (E : mm_E) (cl : mm_F) (n : Nat) (a0 : Nat) (x1 : Int32) (h : mm_H) :
  mm_r51_0 E cl (n + 1) a0 x1 h =
  mm_cI [] (cl 50 [.ref a0, .int x1] h) fun v_2 h_1 =>
  mm_cI [] (cl 30 [.ref a0, .int x1, .int (mm_i 0)] h_1) fun v_4 h_3 =>
  mm_gR h_3 a0 3 4 fun p_5 =>
  mm_rI E h_3 p_5 x1 fun v_6 =>
  some (.inl (some (.int ((v_2 + v_4) - v_6))), h_3) := (rfl)
-- Net.byPlan
noncomputable def mm_r52_0 (E : mm_E) (cl : mm_F) (n : Nat) (a0 : Nat) (x1 : Int32) (x2 : Int32) (h : mm_H) : mm_R := mm_run E cl mm_m52 n 0 [some (.ref a0), some (.int x1), some (.int x2), none] [] h
set_option maxRecDepth 20000 in
set_option maxHeartbeats 4000000 in
theorem mm_e52_0 (E : mm_E) (cl : mm_F) (n : Nat) (a0 : Nat) (x1 : Int32) (x2 : Int32) (h : mm_H) :
  mm_r52_0 E cl (n + 1) a0 x1 x2 h =
  mm_cI [] (cl 51 [.ref a0, .int x1] h) fun v_2 h_1 =>
  (mm_br (x2 = (mm_i 0)) (
  mm_gR h_1 a0 3 4 fun p_13 =>
    mm_rI E h_1 p_13 x1 fun v_14 =>
    some (.inl (some (.int v_14)), h_1)) (
  (mm_br (x2 = (mm_i 1)) (
  mm_cI [] (cl 50 [.ref a0, .int x1] h_1) fun v_12 h_11 =>
    some (.inl (some (.int v_12)), h_11)) (
  (mm_br (x2 = (mm_i 2)) (
  some (.inl (some (.int v_2)), h_1)) (
  (mm_br (x2 = (mm_i 3)) (
  (mm_br ((mm_i 0) ≤ v_2) (
    mm_cI [] (cl 47 [.ref a0, .int x1, .int v_2] h_1) fun v_10 h_9 =>
      some (.inl (some (.int v_10)), h_9)) (
    some (.inl (some (.int (mm_i (-1)))), h_1)))) (
  (mm_br (x2 = (mm_i 4)) (
  (mm_br ((mm_i 0) ≤ v_2) (
    mm_cI [] (cl 49 [.ref a0, .int x1, .int v_2] h_1) fun v_8 h_7 =>
      some (.inl (some (.int v_8)), h_7)) (
    some (.inl (some (.int (mm_i (-1)))), h_1)))) (
  (mm_br ((mm_i 0) ≤ v_2) (
  mm_cI [] (cl 30 [.ref a0, .int x1, .int (mm_i 1)] h_1) fun v_4 h_3 =>
    mm_cI [] (cl 47 [.ref a0, .int x1, .int v_2] h_3) fun v_6 h_5 =>
    some (.inl (some (.int (v_4 * v_6))), h_5)) (
  some (.inl (some (.int (mm_i (-1)))), h_1))))))))))))) := (rfl)
-- Net.firstNotHolding
noncomputable def mm_r53_0 (E : mm_E) (cl : mm_F) (n : Nat) (a0 : Nat) (h : mm_H) : mm_R := mm_run E cl mm_m53 n 0 [some (.ref a0), none, none, none] [] h
noncomputable def mm_r53_2 (E : mm_E) (cl : mm_F) (n : Nat) (a0 : Nat) (x1 : Int32) (o2 : Option Value) (o3 : Option Value) (h : mm_H) : mm_R := mm_run E cl mm_m53 n 2 [some (.ref a0), some (.int x1), o2, o3] [] h
noncomputable def mm_r53_38 (E : mm_E) (cl : mm_F) (n : Nat) (a0 : Nat) (x1 : Int32) (x2 : Int32) (x3 : Int32) (h : mm_H) : mm_R := mm_run E cl mm_m53 n 38 [some (.ref a0), some (.int x1), some (.int x2), some (.int x3)] [] h
noncomputable def mm_r53_48 (E : mm_E) (cl : mm_F) (n : Nat) (a0 : Nat) (x1 : Int32) (x2 : Int32) (x3 : Int32) (h : mm_H) : mm_R := mm_run E cl mm_m53 n 48 [some (.ref a0), some (.int x1), some (.int x2), some (.int x3)] [] h
set_option maxRecDepth 20000 in
set_option maxHeartbeats 4000000 in
theorem mm_e53_0 (E : mm_E) (cl : mm_F) (n : Nat) (a0 : Nat) (h : mm_H) :
  mm_r53_0 E cl (n + 1) a0 h =
  mm_r53_2 E cl n a0 (mm_i 0) none none h := (rfl)
set_option maxRecDepth 20000 in
set_option maxHeartbeats 4000000 in
theorem mm_e53_2 (E : mm_E) (cl : mm_F) (n : Nat) (a0 : Nat) (x1 : Int32) (o2 : Option Value) (o3 : Option Value) (h : mm_H) :
  mm_r53_2 E cl (n + 1) a0 x1 o2 o3 h =
  mm_gI h a0 3 10 fun v_1 =>
  (mm_br (v_1 ≤ x1) (
  some (.inl (some (.int (mm_i (-1)))), h)) (
  mm_cI [] (cl 30 [.ref a0, .int x1, .int (mm_i 5)] h) fun v_3 h_2 =>
    mm_cI [] (cl 30 [.ref a0, .int x1, .int (mm_i 6)] h_2) fun v_5 h_4 =>
    mm_cI [] (cl 51 [.ref a0, .int x1] h_4) fun v_7 h_6 =>
    (mm_br (v_7 < (mm_i 0)) (
    some (.inl (some (.int x1)), h_6)) (
    (mm_br (v_3 = (mm_i (-1))) (
      mm_r53_48 E cl n a0 x1 v_3 v_5 h_6) (
      mm_r53_38 E cl n a0 x1 v_3 v_5 h_6)))))) := (rfl)
set_option maxRecDepth 20000 in
set_option maxHeartbeats 4000000 in
theorem mm_e53_38 (E : mm_E) (cl : mm_F) (n : Nat) (a0 : Nat) (x1 : Int32) (x2 : Int32) (x3 : Int32) (h : mm_H) :
  mm_r53_38 E cl (n + 1) a0 x1 x2 x3 h =
  mm_gR h a0 3 4 fun p_1 =>
  mm_rI E h p_1 x1 fun v_2 =>
  (mm_br (x2 < v_2) (
  some (.inl (some (.int x1)), h)) (
  mm_r53_48 E cl n a0 x1 x2 x3 h)) := (rfl)
set_option maxRecDepth 20000 in
set_option maxHeartbeats 4000000 in
theorem mm_e53_48 (E : mm_E) (cl : mm_F) (n : Nat) (a0 : Nat) (x1 : Int32) (x2 : Int32) (x3 : Int32) (h : mm_H) :
  mm_r53_48 E cl (n + 1) a0 x1 x2 x3 h =
  (mm_br (x3 = (mm_i (-1))) (
  mm_r53_2 E cl n a0 (x1 + (mm_i 1)) (some (.int x2)) (some (.int x3)) h) (
  mm_gR h a0 3 4 fun p_1 =>
    mm_rI E h p_1 x1 fun v_2 =>
    (mm_br (v_2 = x3) (
    mm_r53_2 E cl n a0 (x1 + (mm_i 1)) (some (.int x2)) (some (.int x3)) h) (
    some (.inl (some (.int x1)), h))))) := (rfl)
-- Net.priceAtHand
noncomputable def mm_r54_0 (E : mm_E) (cl : mm_F) (n : Nat) (a0 : Nat) (h : mm_H) : mm_R := mm_run E cl mm_m54 n 0 [some (.ref a0), none, none] [] h
noncomputable def mm_r54_4 (E : mm_E) (cl : mm_F) (n : Nat) (a0 : Nat) (x1 : Int32) (x2 : Int32) (h : mm_H) : mm_R := mm_run E cl mm_m54 n 4 [some (.ref a0), some (.int x1), some (.int x2)] [] h
set_option maxRecDepth 20000 in
set_option maxHeartbeats 4000000 in
theorem mm_e54_0 (E : mm_E) (cl : mm_F) (n : Nat) (a0 : Nat) (h : mm_H) :
  mm_r54_0 E cl (n + 1) a0 h =
  mm_r54_4 E cl n a0 (mm_i 0) (mm_i 0) h := (rfl)
set_option maxRecDepth 20000 in
set_option maxHeartbeats 4000000 in
theorem mm_e54_4 (E : mm_E) (cl : mm_F) (n : Nat) (a0 : Nat) (x1 : Int32) (x2 : Int32) (h : mm_H) :
  mm_r54_4 E cl (n + 1) a0 x1 x2 h =
  mm_gI h a0 3 10 fun v_1 =>
  (mm_br (v_1 ≤ x2) (
  some (.inl (some (.int x1)), h)) (
  mm_cI [] (cl 52 [.ref a0, .int x2, .int (mm_i 5)] h) fun v_3 h_2 =>
    mm_r54_4 E cl n a0 (x1 + v_3) (x2 + (mm_i 1)) h_2)) := (rfl)
-- Net.holding
noncomputable def mm_r55_0 (E : mm_E) (cl : mm_F) (n : Nat) (a0 : Nat) (h : mm_H) : mm_R := mm_run E cl mm_m55 n 0 [some (.ref a0), none, none] [] h
noncomputable def mm_r55_4 (E : mm_E) (cl : mm_F) (n : Nat) (a0 : Nat) (x1 : Int32) (x2 : Int32) (h : mm_H) : mm_R := mm_run E cl mm_m55 n 4 [some (.ref a0), some (.int x1), some (.int x2)] [] h
set_option maxRecDepth 20000 in
set_option maxHeartbeats 4000000 in
theorem mm_e55_0 (E : mm_E) (cl : mm_F) (n : Nat) (a0 : Nat) (h : mm_H) :
  mm_r55_0 E cl (n + 1) a0 h =
  mm_r55_4 E cl n a0 (mm_i 0) (mm_i 0) h := (rfl)
set_option maxRecDepth 20000 in
set_option maxHeartbeats 4000000 in
theorem mm_e55_4 (E : mm_E) (cl : mm_F) (n : Nat) (a0 : Nat) (x1 : Int32) (x2 : Int32) (h : mm_H) :
  mm_r55_4 E cl (n + 1) a0 x1 x2 h =
  mm_gI h a0 3 10 fun v_1 =>
  (mm_br (v_1 ≤ x2) (
  some (.inl (some (.int x1)), h)) (
  mm_cI [] (cl 52 [.ref a0, .int x2, .int (mm_i 3)] h) fun v_3 h_2 =>
    (mm_br (v_3 ≤ (mm_i 0)) (
    mm_r55_4 E cl n a0 (x1 ||| (mm_i 0)) (x2 + (mm_i 1)) h_2) (
    mm_r55_4 E cl n a0 (x1 ||| ((mm_i 1) <<< (x2 &&& 31))) (x2 + (mm_i 1)) h_2)))) := (rfl)
-- Net.planZero
noncomputable def mm_r56_0 (E : mm_E) (cl : mm_F) (n : Nat) (a0 : Nat) (h : mm_H) : mm_R := mm_run E cl mm_m56 n 0 [some (.ref a0), none] [] h
noncomputable def mm_r56_2 (E : mm_E) (cl : mm_F) (n : Nat) (a0 : Nat) (x1 : Int32) (h : mm_H) : mm_R := mm_run E cl mm_m56 n 2 [some (.ref a0), some (.int x1)] [] h
set_option maxRecDepth 20000 in
set_option maxHeartbeats 4000000 in
theorem mm_e56_0 (E : mm_E) (cl : mm_F) (n : Nat) (a0 : Nat) (h : mm_H) :
  mm_r56_0 E cl (n + 1) a0 h =
  mm_r56_2 E cl n a0 (mm_i 0) h := (rfl)
set_option maxRecDepth 20000 in
set_option maxHeartbeats 4000000 in
theorem mm_e56_2 (E : mm_E) (cl : mm_F) (n : Nat) (a0 : Nat) (x1 : Int32) (h : mm_H) :
  mm_r56_2 E cl (n + 1) a0 x1 h =
  mm_gI h a0 3 10 fun v_1 =>
  (mm_br (v_1 ≤ x1) (
  some (.inl none, h)) (
  mm_gR h a0 3 4 fun p_2 =>
    mm_wI h p_2 x1 (mm_i 0) fun h_3 =>
    mm_r56_2 E cl n a0 (x1 + (mm_i 1)) h_3)) := (rfl)
-- Net.planLazily
noncomputable def mm_r57_0 (E : mm_E) (cl : mm_F) (n : Nat) (a0 : Nat) (h : mm_H) : mm_R := mm_run E cl mm_m57 n 0 [some (.ref a0), none, none, none] [] h
noncomputable def mm_r57_2 (E : mm_E) (cl : mm_F) (n : Nat) (a0 : Nat) (x1 : Int32) (o2 : Option Value) (o3 : Option Value) (h : mm_H) : mm_R := mm_run E cl mm_m57 n 2 [some (.ref a0), some (.int x1), o2, o3] [] h
noncomputable def mm_r57_30 (E : mm_E) (cl : mm_F) (n : Nat) (a0 : Nat) (x1 : Int32) (x2 : Int32) (x3 : Int32) (h : mm_H) : mm_R := mm_run E cl mm_m57 n 30 [some (.ref a0), some (.int x1), some (.int x2), some (.int x3)] [] h
noncomputable def mm_r57_55 (E : mm_E) (cl : mm_F) (n : Nat) (a0 : Nat) (x1 : Int32) (x2 : Int32) (x3 : Int32) (h : mm_H) : mm_R := mm_run E cl mm_m57 n 55 [some (.ref a0), some (.int x1), some (.int x2), some (.int x3)] [] h
set_option maxRecDepth 20000 in
set_option maxHeartbeats 4000000 in
theorem mm_e57_0 (E : mm_E) (cl : mm_F) (n : Nat) (a0 : Nat) (h : mm_H) :
  mm_r57_0 E cl (n + 1) a0 h =
  mm_r57_2 E cl n a0 (mm_i 0) none none h := (rfl)
set_option maxRecDepth 20000 in
set_option maxHeartbeats 4000000 in
theorem mm_e57_2 (E : mm_E) (cl : mm_F) (n : Nat) (a0 : Nat) (x1 : Int32) (o2 : Option Value) (o3 : Option Value) (h : mm_H) :
  mm_r57_2 E cl (n + 1) a0 x1 o2 o3 h =
  mm_gI h a0 3 10 fun v_1 =>
  (mm_br (v_1 ≤ x1) (
  some (.inl none, h)) (
  mm_gR h a0 3 6 fun p_2 =>
    mm_rI E h p_2 x1 fun v_3 =>
    mm_cI [] (cl 50 [.ref a0, .int v_3] h) fun v_5 h_4 =>
    mm_cI [] (cl 30 [.ref a0, .int v_3, .int (mm_i 0)] h_4) fun v_7 h_6 =>
    mm_r57_30 E cl n a0 x1 v_3 (v_5 + v_7) h_6)) := (rfl)
set_option maxRecDepth 20000 in
set_option maxHeartbeats 4000000 in
theorem mm_e57_30 (E : mm_E) (cl : mm_F) (n : Nat) (a0 : Nat) (x1 : Int32) (x2 : Int32) (x3 : Int32) (h : mm_H) :
  mm_r57_30 E cl (n + 1) a0 x1 x2 x3 h =
  mm_cI [] (cl 30 [.ref a0, .int x2, .int (mm_i 5)] h) fun v_2 h_1 =>
  (mm_br (v_2 = (mm_i (-1))) (
  mm_r57_55 E cl n a0 x1 x2 x3 h_1) (
  mm_cI [] (cl 30 [.ref a0, .int x2, .int (mm_i 5)] h_1) fun v_4 h_3 =>
    mm_r57_55 E cl n a0 x1 x2 (mm_mn x3 v_4) h_3)) := (rfl)
set_option maxRecDepth 20000 in
set_option maxHeartbeats 4000000 in
theorem mm_e57_55 (E : mm_E) (cl : mm_F) (n : Nat) (a0 : Nat) (x1 : Int32) (x2 : Int32) (x3 : Int32) (h : mm_H) :
  mm_r57_55 E cl (n + 1) a0 x1 x2 x3 h =
  mm_gR h a0 3 4 fun p_1 =>
  mm_cI [] (cl 30 [.ref a0, .int x2, .int (mm_i 6)] h) fun v_3 h_2 =>
  (mm_br (v_3 = (mm_i (-1))) (
  mm_wI h_2 p_1 x2 x3 fun h_7 =>
    mm_r57_2 E cl n a0 (x1 + (mm_i 1)) (some (.int x2)) (some (.int x3)) h_7) (
  mm_cI [] (cl 30 [.ref a0, .int x2, .int (mm_i 6)] h_2) fun v_5 h_4 =>
    mm_wI h_4 p_1 x2 (mm_mn x3 v_5) fun h_6 =>
    mm_r57_2 E cl n a0 (x1 + (mm_i 1)) (some (.int x2)) (some (.int x3)) h_6)) := (rfl)
-- Net.planHalf
noncomputable def mm_r58_0 (E : mm_E) (cl : mm_F) (n : Nat) (a0 : Nat) (h : mm_H) : mm_R := mm_run E cl mm_m58 n 0 [some (.ref a0), none] [] h
noncomputable def mm_r58_6 (E : mm_E) (cl : mm_F) (n : Nat) (a0 : Nat) (x1 : Int32) (h : mm_H) : mm_R := mm_run E cl mm_m58 n 6 [some (.ref a0), some (.int x1)] [] h
set_option maxRecDepth 20000 in
set_option maxHeartbeats 4000000 in
theorem mm_e58_0 (E : mm_E) (cl : mm_F) (n : Nat) (a0 : Nat) (h : mm_H) :
  mm_r58_0 E cl (n + 1) a0 h =
  mm_cV [] (cl 57 [.ref a0] h) fun h_1 =>
  mm_r58_6 E cl n a0 (mm_i 0) h_1 := (rfl)
set_option maxRecDepth 20000 in
set_option maxHeartbeats 4000000 in
theorem mm_e58_6 (E : mm_E) (cl : mm_F) (n : Nat) (a0 : Nat) (x1 : Int32) (h : mm_H) :
  mm_r58_6 E cl (n + 1) a0 x1 h =
  mm_gI h a0 3 10 fun v_1 =>
  (mm_br (v_1 ≤ x1) (
  some (.inl none, h)) (
  mm_gR h a0 3 4 fun p_2 =>
    mm_cI [] (cl 30 [.ref a0, .int x1, .int (mm_i 6)] h) fun v_4 h_3 =>
    (mm_br (v_4 = (mm_i (-1))) (
    mm_gR h_3 a0 3 4 fun p_8 =>
      mm_rI E h_3 p_8 x1 fun v_9 =>
      (mm_nz (mm_i 2) (
      mm_wI h_3 p_2 x1 (v_9 / (mm_i 2)) fun h_10 =>
      mm_r58_6 E cl n a0 (x1 + (mm_i 1)) h_10))) (
    mm_cI [] (cl 30 [.ref a0, .int x1, .int (mm_i 6)] h_3) fun v_6 h_5 =>
      mm_wI h_5 p_2 x1 v_6 fun h_7 =>
      mm_r58_6 E cl n a0 (x1 + (mm_i 1)) h_7)))) := (rfl)
-- Net.allBelow
noncomputable def mm_r59_0 (E : mm_E) (cl : mm_F) (n : Nat) (a0 : Nat) (x1 : Int32) (h : mm_H) : mm_R := mm_run E cl mm_m59 n 0 [some (.ref a0), some (.int x1), none, none] [] h
noncomputable def mm_r59_6 (E : mm_E) (cl : mm_F) (n : Nat) (a0 : Nat) (x1 : Int32) (x2 : Int32) (x3 : Int32) (h : mm_H) : mm_R := mm_run E cl mm_m59 n 6 [some (.ref a0), some (.int x1), some (.int x2), some (.int x3)] [] h
set_option maxRecDepth 20000 in
set_option maxHeartbeats 4000000 in
theorem mm_e59_0 (E : mm_E) (cl : mm_F) (n : Nat) (a0 : Nat) (x1 : Int32) (h : mm_H) :
  mm_r59_0 E cl (n + 1) a0 x1 h =
  mm_r59_6 E cl n a0 x1 ((mm_i 1) <<< (x1 &&& 31)) (mm_i 0) h := (rfl)
set_option maxRecDepth 20000 in
set_option maxHeartbeats 4000000 in
theorem mm_e59_6 (E : mm_E) (cl : mm_F) (n : Nat) (a0 : Nat) (x1 : Int32) (x2 : Int32) (x3 : Int32) (h : mm_H) :
  mm_r59_6 E cl (n + 1) a0 x1 x2 x3 h =
  mm_gI h a0 3 10 fun v_1 =>
  (mm_br (v_1 ≤ x3) (
  some (.inl (some (.int x2)), h)) (
  mm_gR h a0 3 6 fun p_2 =>
    mm_rI E h p_2 x3 fun v_3 =>
    mm_cI [] (cl 61 [.int x2, .int v_3] h) fun v_5 h_4 =>
    (mm_br (v_5 = (mm_i 0)) (
    mm_r59_6 E cl n a0 x1 (x2 ||| (mm_i 0)) (x3 + (mm_i 1)) h_4) (
    mm_gR h_4 a0 3 3 fun p_6 =>
      mm_gR h_4 a0 3 6 fun p_7 =>
      mm_rI E h_4 p_7 x3 fun v_8 =>
      mm_rI E h_4 p_6 v_8 fun v_9 =>
      mm_r59_6 E cl n a0 x1 (x2 ||| v_9) (x3 + (mm_i 1)) h_4)))) := (rfl)
-- Net.aheadInChain
noncomputable def mm_r60_0 (E : mm_E) (cl : mm_F) (n : Nat) (a0 : Nat) (x1 : Int32) (h : mm_H) : mm_R := mm_run E cl mm_m60 n 0 [some (.ref a0), some (.int x1), none, none] [] h
noncomputable def mm_r60_4 (E : mm_E) (cl : mm_F) (n : Nat) (a0 : Nat) (x1 : Int32) (x2 : Int32) (x3 : Int32) (h : mm_H) : mm_R := mm_run E cl mm_m60 n 4 [some (.ref a0), some (.int x1), some (.int x2), some (.int x3)] [] h
noncomputable def mm_r60_26 (E : mm_E) (cl : mm_F) (n : Nat) (a0 : Nat) (x1 : Int32) (x2 : Int32) (x3 : Int32) (h : mm_H) : mm_R := mm_run E cl mm_m60 n 26 [some (.ref a0), some (.int x1), some (.int x2), some (.int x3)] [] h
noncomputable def mm_r60_80 (E : mm_E) (cl : mm_F) (n : Nat) (a0 : Nat) (x1 : Int32) (x2 : Int32) (x3 : Int32) (h : mm_H) : mm_R := mm_run E cl mm_m60 n 80 [some (.ref a0), some (.int x1), some (.int x2), some (.int x3)] [] h
noncomputable def mm_r60_82 (E : mm_E) (cl : mm_F) (n : Nat) (a0 : Nat) (x1 : Int32) (x2 : Int32) (x3 : Int32) (h : mm_H) : mm_R := mm_run E cl mm_m60 n 82 [some (.ref a0), some (.int x1), some (.int x2), some (.int x3)] [] h
set_option maxRecDepth 20000 in
set_option maxHeartbeats 4000000 in
theorem mm_e60_0 (E : mm_E) (cl : mm_F) (n : Nat) (a0 : Nat) (x1 : Int32) (h : mm_H) :
  mm_r60_0 E cl (n + 1) a0 x1 h =
  mm_r60_4 E cl n a0 x1 (mm_i (-1)) (mm_i 0) h := (rfl)
set_option maxRecDepth 20000 in
set_option maxHeartbeats 4000000 in
theorem mm_e60_4 (E : mm_E) (cl : mm_F) (n : Nat) (a0 : Nat) (x1 : Int32) (x2 : Int32) (x3 : Int32) (h : mm_H) :
  mm_r60_4 E cl (n + 1) a0 x1 x2 x3 h =
  mm_gI h a0 3 10 fun v_1 =>
  (mm_br (v_1 ≤ x3) (
  (mm_br (x2 = (mm_i (-1))) (
    mm_r60_80 E cl n a0 x1 x2 x3 h) (
    mm_gR h a0 3 9 fun p_2 =>
      mm_rI E h p_2 x2 fun v_3 =>
      mm_cI [] (cl 30 [.ref a0, .int x1, .int (mm_i 0)] h) fun v_5 h_4 =>
      mm_gR h_4 a0 3 9 fun p_6 =>
      mm_rI E h_4 p_6 x1 fun v_7 =>
      (mm_br ((v_3 + v_5) = v_7) (
      mm_r60_82 E cl n a0 x1 x2 (mm_i 1) h_4) (
      mm_r60_80 E cl n a0 x1 x2 x3 h_4))))) (
  mm_cI [] (cl 32 [.ref a0, .int x3, .int x1] h) fun v_9 h_8 =>
    (mm_br (v_9 = (mm_i 0)) (
    mm_r60_4 E cl n a0 x1 x2 (x3 + (mm_i 1)) h_8) (
    (mm_br (x2 = (mm_i (-1))) (
      mm_r60_4 E cl n a0 x1 x3 (x3 + (mm_i 1)) h_8) (
      mm_r60_26 E cl n a0 x1 x2 x3 h_8)))))) := (rfl)
set_option maxRecDepth 20000 in
set_option maxHeartbeats 4000000 in
theorem mm_e60_26 (E : mm_E) (cl : mm_F) (n : Nat) (a0 : Nat) (x1 : Int32) (x2 : Int32) (x3 : Int32) (h : mm_H) :
  mm_r60_26 E cl (n + 1) a0 x1 x2 x3 h =
  mm_gR h a0 3 9 fun p_1 =>
  mm_rI E h p_1 x3 fun v_2 =>
  mm_gR h a0 3 9 fun p_3 =>
  mm_rI E h p_3 x2 fun v_4 =>
  (mm_br (v_2 ≤ v_4) (
  mm_r60_4 E cl n a0 x1 x2 (x3 + (mm_i 1)) h) (
  mm_r60_4 E cl n a0 x1 x3 (x3 + (mm_i 1)) h)) := (rfl)
set_option maxRecDepth 20000 in
set_option maxHeartbeats 4000000 in
theorem mm_e60_80 (E : mm_E) (cl : mm_F) (n : Nat) (a0 : Nat) (x1 : Int32) (x2 : Int32) (x3 : Int32) (h : mm_H) :
  mm_r60_80 E cl (n + 1) a0 x1 x2 x3 h =
  mm_r60_82 E cl n a0 x1 x2 (mm_i 0) h := (rfl)
set_option maxRecDepth 20000 in
set_option maxHeartbeats 4000000 in
theorem mm_e60_82 (E : mm_E) (cl : mm_F) (n : Nat) (a0 : Nat) (x1 : Int32) (x2 : Int32) (x3 : Int32) (h : mm_H) :
  mm_r60_82 E cl (n + 1) a0 x1 x2 x3 h =
  (mm_br (x3 = (mm_i 0)) (
  some (.inl (some (.int (mm_i (-1)))), h)) (
  some (.inl (some (.int x2)), h))) := (rfl)
-- Net.has
noncomputable def mm_r61_0 (E : mm_E) (cl : mm_F) (n : Nat) (x0 : Int32) (x1 : Int32) (h : mm_H) : mm_R := mm_run E cl mm_m61 n 0 [some (.int x0), some (.int x1)] [] h
set_option maxRecDepth 20000 in
set_option maxHeartbeats 4000000 in
theorem mm_e61_0 (E : mm_E) (cl : mm_F) (n : Nat) (x0 : Int32) (x1 : Int32) (h : mm_H) :
  mm_r61_0 E cl (n + 1) x0 x1 h =
  (mm_br (((x0 >>> (x1 &&& 31)) &&& (mm_i 1)) = (mm_i 0)) (
  (mm_bz (mm_i 0) (some (.inl (some (.int (mm_i 0))), h)))) (
  (mm_bz (mm_i 1) (some (.inl (some (.int (mm_i 1))), h))))) := (rfl)
-- Que.init
noncomputable def mm_r62_0 (E : mm_E) (cl : mm_F) (n : Nat) (a0 : Nat) (a1 : Nat) (a2 : Nat) (h : mm_H) : mm_R := mm_run E cl mm_m62 n 0 [some (.ref a0), some (.ref a1), some (.ref a2)] [] h
noncomputable def mm_r62_41 (E : mm_E) (cl : mm_F) (n : Nat) (a0 : Nat) (a1 : Nat) (a2 : Nat) (h : mm_H) : mm_R := mm_run E cl mm_m62 n 41 [some (.ref a0), some (.ref a1), some (.ref a2)] [] h
set_option maxRecDepth 20000 in
set_option maxHeartbeats 4000000 in
theorem mm_e62_0 (E : mm_E) (cl : mm_F) (n : Nat) (a0 : Nat) (a1 : Nat) (a2 : Nat) (h : mm_H) :
  mm_r62_0 E cl (n + 1) a0 a1 a2 h =
  mm_nn (mm_i 200) fun k_3 => mm_al h (.inr (.inl (k_3, fun _ => 0))) k_3 fun p_1 h_2 =>
  mm_pF h_2 a0 4 2 (.ref p_1) fun h_4 =>
  mm_nn (mm_i 64) fun k_7 => mm_al h_4 (.inr (.inl (k_7, fun _ => 0))) k_7 fun p_5 h_6 =>
  mm_pF h_6 a0 4 3 (.ref p_5) fun h_8 =>
  mm_pF h_8 a0 4 4 (.int (mm_i 0)) fun h_9 =>
  mm_pF h_9 a0 4 5 (.int (mm_i 0)) fun h_10 =>
  mm_pF h_10 a0 4 6 (.int (mm_i 0)) fun h_11 =>
  mm_pF h_11 a0 4 0 (.ref a1) fun h_12 =>
  mm_r62_41 E cl n a0 a1 a2 h_12 := (rfl)
set_option maxRecDepth 20000 in
set_option maxHeartbeats 4000000 in
theorem mm_e62_41 (E : mm_E) (cl : mm_F) (n : Nat) (a0 : Nat) (a1 : Nat) (a2 : Nat) (h : mm_H) :
  mm_r62_41 E cl (n + 1) a0 a1 a2 h =
  mm_pF h a0 4 1 (.ref a2) fun h_1 =>
  some (.inl none, h_1) := (rfl)
-- Que.read
noncomputable def mm_r63_0 (E : mm_E) (cl : mm_F) (n : Nat) (a0 : Nat) (x1 : Int32) (h : mm_H) : mm_R := mm_run E cl mm_m63 n 0 [some (.ref a0), some (.int x1), none] [] h
noncomputable def mm_r63_41 (E : mm_E) (cl : mm_F) (n : Nat) (a0 : Nat) (x1 : Int32) (o2 : Option Value) (h : mm_H) : mm_R := mm_run E cl mm_m63 n 41 [some (.ref a0), some (.int x1), o2] [] h
noncomputable def mm_r63_89 (E : mm_E) (cl : mm_F) (n : Nat) (a0 : Nat) (x1 : Int32) (x2 : Int32) (h : mm_H) : mm_R := mm_run E cl mm_m63 n 89 [some (.ref a0), some (.int x1), some (.int x2)] [] h
set_option maxRecDepth 20000 in
set_option maxHeartbeats 4000000 in
theorem mm_e63_0 (E : mm_E) (cl : mm_F) (n : Nat) (a0 : Nat) (x1 : Int32) (h : mm_H) :
  mm_r63_0 E cl (n + 1) a0 x1 h =
  mm_pF h a0 4 6 (.int (mm_i 0)) fun h_1 =>
  mm_pF h_1 a0 4 4 (.int (mm_i 0)) fun h_2 =>
  mm_gR h_2 a0 4 0 fun p_3 =>
  mm_cV [] (cl 94 [.ref p_3, .int x1] h_2) fun h_4 =>
  mm_gR h_4 a0 4 0 fun p_5 =>
  mm_cI [] (cl 98 [.ref p_5, .ref (E.2.2.1 18)] h_4) fun v_7 h_6 =>
  mm_pF h_6 a0 4 5 (.int v_7) fun h_8 =>
  mm_gI h_8 a0 4 5 fun v_9 =>
  (mm_br (v_9 = (mm_i (-1))) (
  some (.inl (some (.int (mm_i 1))), h_8)) (
  mm_r63_41 E cl n a0 x1 none h_8)) := (rfl)
set_option maxRecDepth 20000 in
set_option maxHeartbeats 4000000 in
theorem mm_e63_41 (E : mm_E) (cl : mm_F) (n : Nat) (a0 : Nat) (x1 : Int32) (o2 : Option Value) (h : mm_H) :
  mm_r63_41 E cl (n + 1) a0 x1 o2 h =
  mm_gR h a0 4 0 fun p_1 =>
  mm_cV [] (cl 95 [.ref p_1] h) fun h_2 =>
  mm_gI h_2 a0 4 5 fun v_3 =>
  (mm_br ((mm_i 2) ≤ v_3) (
  mm_cI [] (cl 66 [.ref a0, .int (mm_i 0)] h_2) fun v_5 h_4 =>
    (mm_br (v_5 = (mm_i 0)) (
    mm_r63_89 E cl n a0 x1 v_5 h_4) (
    mm_gR h_4 a0 4 0 fun p_6 =>
      mm_gI h_4 p_6 7 5 fun v_7 =>
      (mm_br (v_7 = (mm_i 0)) (
      mm_r63_89 E cl n a0 x1 v_5 h_4) (
      mm_pF h_4 a0 4 6 (.int (mm_i 1)) fun h_8 =>
        mm_r63_89 E cl n a0 x1 v_5 h_8))))) (
  mm_cI [] (cl 64 [.ref a0, .int (mm_i 0)] h_2) fun v_10 h_9 =>
    (mm_br (v_10 = (mm_i 0)) (
    mm_r63_89 E cl n a0 x1 v_10 h_9) (
    mm_gR h_9 a0 4 0 fun p_11 =>
      mm_gI h_9 p_11 7 5 fun v_12 =>
      (mm_br (v_12 = (mm_i 0)) (
      mm_r63_89 E cl n a0 x1 v_10 h_9) (
      mm_pF h_9 a0 4 6 (.int (mm_i 1)) fun h_13 =>
        mm_r63_89 E cl n a0 x1 v_10 h_13)))))) := (rfl)
set_option maxRecDepth 20000 in
set_option maxHeartbeats 4000000 in
theorem mm_e63_89 (E : mm_E) (cl : mm_F) (n : Nat) (a0 : Nat) (x1 : Int32) (x2 : Int32) (h : mm_H) :
  mm_r63_89 E cl (n + 1) a0 x1 x2 h =
  mm_gI h a0 4 6 fun v_1 =>
  some (.inl (some (.int v_1)), h) := (rfl)
