/-! EQUATIONS of the runs (by program: wip/whole/eqgen.py) -/
-- Led.open
set_option maxRecDepth 20000 in
set_option maxHeartbeats 4000000 in
theorem mm_e20_65 (E : mm_E) (cl : mm_F) (n : Nat) (a0 : Nat) (a1 : Nat) (x2 : Int32) (x3 : Int32) (x4 : Int32) (x5 : Int32) (x6 : Int32) (h : mm_H) :
  mm_run E cl mm_m20 (n + 1) 65 [some (.ref a0), some (.ref a1), some (.int x2), some (.int x3), some (.int x4), some (.int x5), some (.int x6)] [] h =
  mm_gI h a1 3 10 fun v_1 =>
  (mm_br (v_1 ≤ x6) (
  mm_gR h a0 2 0 fun p_2 =>
    mm_gR h a0 2 0 fun p_3 =>
    mm_rI E h p_3 x4 fun v_4 =>
    mm_wI h p_2 (x4 + 1) (v_4 + x5) fun h_5 =>
    mm_run E cl mm_m20 n 52 [some (.ref a0), some (.ref a1), some (.int x2), some (.int x3), some (.int (x4 + 1)), some (.int x5), some (.int x6)] [] h_5) (
  mm_cI [] (cl 61 [.int x3, .int x6] h) fun v_7 h_6 =>
    (mm_br (v_7 = 0) (
    mm_run E cl mm_m20 n 65 [some (.ref a0), some (.ref a1), some (.int x2), some (.int x3), some (.int x4), some (.int (x5 + 0)), some (.int (x6 + 1))] [] h_6) (
    mm_gR h_6 a1 3 5 fun p_8 =>
      mm_rI E h_6 p_8 ((x6 * 40) + x4) fun v_9 =>
      mm_run E cl mm_m20 n 65 [some (.ref a0), some (.ref a1), some (.int x2), some (.int x3), some (.int x4), some (.int (x5 + v_9)), some (.int (x6 + 1))] [] h_6)))) := rfl
-- Led.openBounds
set_option maxRecDepth 20000 in
set_option maxHeartbeats 4000000 in
theorem mm_e21_0 (E : mm_E) (cl : mm_F) (n : Nat) (a0 : Nat) (a1 : Nat) (x2 : Int32) (h : mm_H) :
  mm_run E cl mm_m21 (n + 1) 0 [some (.ref a0), some (.ref a1), some (.int x2), none, none] [] h =
  mm_run E cl mm_m21 n 5 [some (.ref a0), some (.ref a1), some (.int x2), some (.int 0), some (.int 0)] [] h := rfl
-- Led.openBounds
set_option maxRecDepth 20000 in
set_option maxHeartbeats 4000000 in
theorem mm_e21_5 (E : mm_E) (cl : mm_F) (n : Nat) (a0 : Nat) (a1 : Nat) (x2 : Int32) (x3 : Int32) (x4 : Int32) (h : mm_H) :
  mm_run E cl mm_m21 (n + 1) 5 [some (.ref a0), some (.ref a1), some (.int x2), some (.int x3), some (.int x4)] [] h =
  mm_gR h a0 2 1 fun p_1 =>
  mm_ln E h p_1 fun v_2 =>
  (mm_br (v_2 ≤ x4) (
  some (.inl none, h)) (
  mm_cI [] (cl 48 [.ref a1, .int x3, .int x2, .int x4] h) fun v_4 h_3 =>
    mm_gR h_3 a0 2 1 fun p_5 =>
    mm_gR h_3 a1 3 7 fun p_6 =>
    mm_rI E h_3 p_6 x2 fun v_7 =>
    mm_wI h_3 p_5 x4 ((x4 * v_7) + v_4) fun h_8 =>
    mm_run E cl mm_m21 n 5 [some (.ref a0), some (.ref a1), some (.int x2), some (.int v_4), some (.int (x4 + 1))] [] h_8)) := rfl
-- Led.calledOn
set_option maxRecDepth 20000 in
set_option maxHeartbeats 4000000 in
theorem mm_e22_0 (E : mm_E) (cl : mm_F) (n : Nat) (a0 : Nat) (x1 : Int32) (x2 : Int32) (h : mm_H) :
  mm_run E cl mm_m22 (n + 1) 0 [some (.ref a0), some (.int x1), some (.int x2)] [] h =
  mm_gR h a0 2 0 fun p_1 =>
  mm_cI [] (cl 28 [.int (x2 + 1)] h) fun v_3 h_2 =>
  mm_rI E h_2 p_1 v_3 fun v_4 =>
  mm_gR h_2 a0 2 0 fun p_5 =>
  mm_cI [] (cl 28 [.int x1] h_2) fun v_7 h_6 =>
  mm_rI E h_6 p_5 v_7 fun v_8 =>
  some (.inl (some (.int (v_4 - v_8))), h_6) := rfl
-- Led.onHand
set_option maxRecDepth 20000 in
set_option maxHeartbeats 4000000 in
theorem mm_e23_0 (E : mm_E) (cl : mm_F) (n : Nat) (a0 : Nat) (x1 : Int32) (h : mm_H) :
  mm_run E cl mm_m23 (n + 1) 0 [some (.ref a0), some (.int x1), none] [] h =
  mm_gI h a0 2 4 fun v_1 =>
  mm_gI h a0 2 3 fun v_2 =>
  mm_gI h a0 2 2 fun v_3 =>
  mm_cI [] (cl 22 [.ref a0, .int (((x1 - v_1) - v_3) + 1), .int (x1 - v_1)] h) fun v_5 h_4 =>
  some (.inl (some (.int (v_2 - v_5))), h_4) := rfl
-- Led.longestBreak
set_option maxRecDepth 20000 in
set_option maxHeartbeats 4000000 in
theorem mm_e24_0 (E : mm_E) (cl : mm_F) (n : Nat) (a0 : Nat) (x1 : Int32) (h : mm_H) :
  mm_run E cl mm_m24 (n + 1) 0 [some (.ref a0), some (.int x1), none] [] h =
  mm_run E cl mm_m24 n 4 [some (.ref a0), some (.int x1), some (.int (x1 + 1))] [] h := rfl
-- Led.longestBreak
set_option maxRecDepth 20000 in
set_option maxHeartbeats 4000000 in
theorem mm_e24_4 (E : mm_E) (cl : mm_F) (n : Nat) (a0 : Nat) (x1 : Int32) (x2 : Int32) (h : mm_H) :
  mm_run E cl mm_m24 (n + 1) 4 [some (.ref a0), some (.int x1), some (.int x2)] [] h =
  (mm_br (x2 ≤ 0) (
  some (.inl (some (.int 0)), h)) (
  mm_cI [] (cl 22 [.ref a0, .int ((x1 - x2) + 1), .int x1] h) fun v_2 h_1 =>
    mm_gR h_1 a0 2 1 fun p_3 =>
    mm_rI E h_1 p_3 x2 fun v_4 =>
    (mm_br (v_2 ≤ v_4) (
    mm_run E cl mm_m24 n 4 [some (.ref a0), some (.int x1), some (.int (x2 + (-1)))] [] h_1) (
    some (.inl (some (.int x2)), h_1))))) := rfl
-- Led.firstBreak
set_option maxRecDepth 20000 in
set_option maxHeartbeats 4000000 in
theorem mm_e25_0 (E : mm_E) (cl : mm_F) (n : Nat) (a0 : Nat) (h : mm_H) :
  mm_run E cl mm_m25 (n + 1) 0 [some (.ref a0), none] [] h =
  mm_run E cl mm_m25 n 2 [some (.ref a0), some (.int 0)] [] h := rfl
-- Led.firstBreak
set_option maxRecDepth 20000 in
set_option maxHeartbeats 4000000 in
theorem mm_e25_2 (E : mm_E) (cl : mm_F) (n : Nat) (a0 : Nat) (x1 : Int32) (h : mm_H) :
  mm_run E cl mm_m25 (n + 1) 2 [some (.ref a0), some (.int x1)] [] h =
  (mm_br (40 ≤ x1) (
  some (.inl (some (.int (-1))), h)) (
  mm_cI [] (cl 24 [.ref a0, .int x1] h) fun v_2 h_1 =>
    (mm_br (v_2 ≤ 0) (
    mm_run E cl mm_m25 n 2 [some (.ref a0), some (.int (x1 + 1))] [] h_1) (
    some (.inl (some (.int x1)), h_1))))) := rfl
-- Led.shortDays
set_option maxRecDepth 20000 in
set_option maxHeartbeats 4000000 in
theorem mm_e26_0 (E : mm_E) (cl : mm_F) (n : Nat) (a0 : Nat) (h : mm_H) :
  mm_run E cl mm_m26 (n + 1) 0 [some (.ref a0), none, none] [] h =
  mm_run E cl mm_m26 n 4 [some (.ref a0), some (.int 0), some (.int 0)] [] h := rfl
-- Led.shortDays
set_option maxRecDepth 20000 in
set_option maxHeartbeats 4000000 in
theorem mm_e26_4 (E : mm_E) (cl : mm_F) (n : Nat) (a0 : Nat) (x1 : Int32) (x2 : Int32) (h : mm_H) :
  mm_run E cl mm_m26 (n + 1) 4 [some (.ref a0), some (.int x1), some (.int x2)] [] h =
  (mm_br (40 ≤ x2) (
  some (.inl (some (.int x1)), h)) (
  mm_cI [] (cl 23 [.ref a0, .int x2] h) fun v_2 h_1 =>
    (mm_br (0 ≤ v_2) (
    mm_run E cl mm_m26 n 4 [some (.ref a0), some (.int (x1 + 0)), some (.int (x2 + 1))] [] h_1) (
    mm_run E cl mm_m26 n 4 [some (.ref a0), some (.int (x1 + 1)), some (.int (x2 + 1))] [] h_1)))) := rfl
-- Led.leastOnHand
set_option maxRecDepth 20000 in
set_option maxHeartbeats 4000000 in
theorem mm_e27_0 (E : mm_E) (cl : mm_F) (n : Nat) (a0 : Nat) (h : mm_H) :
  mm_run E cl mm_m27 (n + 1) 0 [some (.ref a0), none, none] [] h =
  mm_cI [] (cl 23 [.ref a0, .int 0] h) fun v_2 h_1 =>
  mm_run E cl mm_m27 n 8 [some (.ref a0), some (.int v_2), some (.int 1)] [] h_1 := rfl
-- Led.leastOnHand
set_option maxRecDepth 20000 in
set_option maxHeartbeats 4000000 in
theorem mm_e27_8 (E : mm_E) (cl : mm_F) (n : Nat) (a0 : Nat) (x1 : Int32) (x2 : Int32) (h : mm_H) :
  mm_run E cl mm_m27 (n + 1) 8 [some (.ref a0), some (.int x1), some (.int x2)] [] h =
  (mm_br (40 ≤ x2) (
  some (.inl (some (.int x1)), h)) (
  mm_cI [] (cl 23 [.ref a0, .int x2] h) fun v_2 h_1 =>
    mm_run E cl mm_m27 n 8 [some (.ref a0), some (.int (mm_mn x1 v_2)), some (.int (x2 + 1))] [] h_1)) := rfl
-- Led.inside
set_option maxRecDepth 20000 in
set_option maxHeartbeats 4000000 in
theorem mm_e28_0 (E : mm_E) (cl : mm_F) (n : Nat) (x0 : Int32) (h : mm_H) :
  mm_run E cl mm_m28 (n + 1) 0 [some (.int x0)] [] h =
  some (.inl (some (.int (mm_mx 0 (mm_mn x0 40)))), h) := rfl
-- Net.init
set_option maxRecDepth 20000 in
set_option maxHeartbeats 4000000 in
theorem mm_e29_0 (E : mm_E) (cl : mm_F) (n : Nat) (a0 : Nat) (h : mm_H) :
  mm_run E cl mm_m29 (n + 1) 0 [some (.ref a0)] [] h =
  mm_nn 84 fun k_3 => mm_al h (.inr (.inl (k_3, fun _ => 0))) k_3 fun p_1 h_2 =>
  mm_pF h_2 a0 3 0 (.ref p_1) fun h_4 =>
  mm_nn 72 fun k_7 => mm_al h_4 (.inr (.inl (k_7, fun _ => 0))) k_7 fun p_5 h_6 =>
  mm_pF h_6 a0 3 1 (.ref p_5) fun h_8 =>
  mm_nn 12 fun k_11 => mm_al h_8 (.inr (.inl (k_11, fun _ => 0))) k_11 fun p_9 h_10 =>
  mm_pF h_10 a0 3 2 (.ref p_9) fun h_12 =>
  mm_nn 12 fun k_15 => mm_al h_12 (.inr (.inl (k_15, fun _ => 0))) k_15 fun p_13 h_14 =>
  mm_pF h_14 a0 3 3 (.ref p_13) fun h_16 =>
  mm_nn 12 fun k_19 => mm_al h_16 (.inr (.inl (k_19, fun _ => 0))) k_19 fun p_17 h_18 =>
  mm_pF h_18 a0 3 4 (.ref p_17) fun h_20 =>
  mm_nn 480 fun k_23 => mm_al h_20 (.inr (.inl (k_23, fun _ => 0))) k_23 fun p_21 h_22 =>
  mm_pF h_22 a0 3 5 (.ref p_21) fun h_24 =>
  mm_nn 12 fun k_27 => mm_al h_24 (.inr (.inl (k_27, fun _ => 0))) k_27 fun p_25 h_26 =>
  mm_pF h_26 a0 3 6 (.ref p_25) fun h_28 =>
  mm_nn 12 fun k_31 => mm_al h_28 (.inr (.inl (k_31, fun _ => 0))) k_31 fun p_29 h_30 =>
  mm_pF h_30 a0 3 7 (.ref p_29) fun h_32 =>
  mm_nn 12 fun k_35 => mm_al h_32 (.inr (.inl (k_35, fun _ => 0))) k_35 fun p_33 h_34 =>
  mm_pF h_34 a0 3 8 (.ref p_33) fun h_36 =>
  mm_nn 12 fun k_39 => mm_al h_36 (.inr (.inl (k_39, fun _ => 0))) k_39 fun p_37 h_38 =>
  mm_pF h_38 a0 3 9 (.ref p_37) fun h_40 =>
  mm_pF h_40 a0 3 10 (.int 0) fun h_41 =>
  mm_pF h_41 a0 3 11 (.int 165) fun h_42 =>
  mm_pF h_42 a0 3 12 (.int 0) fun h_43 =>
  some (.inl none, h_43) := rfl
-- Net.told
set_option maxRecDepth 20000 in
set_option maxHeartbeats 4000000 in
theorem mm_e30_0 (E : mm_E) (cl : mm_F) (n : Nat) (a0 : Nat) (x1 : Int32) (x2 : Int32) (h : mm_H) :
  mm_run E cl mm_m30 (n + 1) 0 [some (.ref a0), some (.int x1), some (.int x2)] [] h =
  mm_gR h a0 3 0 fun p_1 =>
  mm_rI E h p_1 ((x1 * 7) + x2) fun v_2 =>
  some (.inl (some (.int v_2)), h) := rfl
-- Net.tell
set_option maxRecDepth 20000 in
set_option maxHeartbeats 4000000 in
theorem mm_e31_0 (E : mm_E) (cl : mm_F) (n : Nat) (a0 : Nat) (x1 : Int32) (x2 : Int32) (x3 : Int32) (h : mm_H) :
  mm_run E cl mm_m31 (n + 1) 0 [some (.ref a0), some (.int x1), some (.int x2), some (.int x3)] [] h =
  mm_gR h a0 3 0 fun p_1 =>
  mm_wI h p_1 ((x1 * 7) + x2) x3 fun h_2 =>
  some (.inl none, h_2) := rfl
-- Net.supplies
set_option maxRecDepth 20000 in
set_option maxHeartbeats 4000000 in
theorem mm_e32_0 (E : mm_E) (cl : mm_F) (n : Nat) (a0 : Nat) (x1 : Int32) (x2 : Int32) (h : mm_H) :
  mm_run E cl mm_m32 (n + 1) 0 [some (.ref a0), some (.int x1), some (.int x2)] [] h =
  mm_gR h a0 3 2 fun p_1 =>
  mm_rI E h p_1 x2 fun v_2 =>
  (mm_br (((v_2 >>> (x1 &&& 31)) &&& 1) = 0) (
  (mm_bz 0 (some (.inl (some (.int 0)), h)))) (
  (mm_bz 1 (some (.inl (some (.int 1)), h))))) := rfl
-- Net.empty
set_option maxRecDepth 20000 in
set_option maxHeartbeats 4000000 in
theorem mm_e33_0 (E : mm_E) (cl : mm_F) (n : Nat) (a0 : Nat) (h : mm_H) :
  mm_run E cl mm_m33 (n + 1) 0 [some (.ref a0)] [] h =
  mm_pF h a0 3 10 (.int 0) fun h_1 =>
  mm_pF h_1 a0 3 11 (.int 165) fun h_2 =>
  mm_gR h_2 a0 3 1 fun p_3 =>
  mm_cV [] (cl 286 [.ref p_3, .int 0] h_2) fun h_4 =>
  mm_gR h_4 a0 3 2 fun p_5 =>
  mm_cV [] (cl 286 [.ref p_5, .int 0] h_4) fun h_6 =>
  mm_gR h_6 a0 3 3 fun p_7 =>
  mm_cV [] (cl 286 [.ref p_7, .int 0] h_6) fun h_8 =>
  mm_gR h_8 a0 3 4 fun p_9 =>
  mm_cV [] (cl 286 [.ref p_9, .int 0] h_8) fun h_10 =>
  mm_gR h_10 a0 3 5 fun p_11 =>
  mm_cV [] (cl 286 [.ref p_11, .int 0] h_10) fun h_12 =>
  some (.inl none, h_12) := rfl
-- Net.become
set_option maxRecDepth 20000 in
set_option maxHeartbeats 4000000 in
theorem mm_e34_0 (E : mm_E) (cl : mm_F) (n : Nat) (a0 : Nat) (a1 : Nat) (h : mm_H) :
  mm_run E cl mm_m34 (n + 1) 0 [some (.ref a0), some (.ref a1)] [] h =
  mm_cV [] (cl 35 [.ref a0, .ref a1] h) fun h_1 =>
  mm_gR h_1 a1 3 1 fun p_2 =>
  mm_gR h_1 a0 3 1 fun p_3 =>
  mm_gR h_1 a0 3 1 fun p_4 =>
  mm_ln E h_1 p_4 fun v_5 =>
  mm_cp h_1 p_2 0 p_3 0 v_5 fun h_6 =>
  mm_gR h_6 a1 3 4 fun p_7 =>
  mm_gR h_6 a0 3 4 fun p_8 =>
  mm_gR h_6 a0 3 4 fun p_9 =>
  mm_ln E h_6 p_9 fun v_10 =>
  mm_cp h_6 p_7 0 p_8 0 v_10 fun h_11 =>
  mm_gR h_11 a1 3 5 fun p_12 =>
  mm_gR h_11 a0 3 5 fun p_13 =>
  mm_gR h_11 a0 3 5 fun p_14 =>
  mm_ln E h_11 p_14 fun v_15 =>
  mm_cp h_11 p_12 0 p_13 0 v_15 fun h_16 =>
  some (.inl none, h_16) := rfl
-- Net.becomeNetwork
set_option maxRecDepth 20000 in
set_option maxHeartbeats 4000000 in
theorem mm_e35_0 (E : mm_E) (cl : mm_F) (n : Nat) (a0 : Nat) (a1 : Nat) (h : mm_H) :
  mm_run E cl mm_m35 (n + 1) 0 [some (.ref a0), some (.ref a1)] [] h =
  mm_gI h a1 3 10 fun v_1 =>
  mm_pF h a0 3 10 (.int v_1) fun h_2 =>
  mm_gI h_2 a1 3 11 fun v_3 =>
  mm_pF h_2 a0 3 11 (.int v_3) fun h_4 =>
  mm_gR h_4 a1 3 0 fun p_5 =>
  mm_gR h_4 a0 3 0 fun p_6 =>
  mm_gR h_4 a0 3 0 fun p_7 =>
  mm_ln E h_4 p_7 fun v_8 =>
  mm_cp h_4 p_5 0 p_6 0 v_8 fun h_9 =>
  mm_gR h_9 a1 3 2 fun p_10 =>
  mm_gR h_9 a0 3 2 fun p_11 =>
  mm_gR h_9 a0 3 2 fun p_12 =>
  mm_ln E h_9 p_12 fun v_13 =>
  mm_cp h_9 p_10 0 p_11 0 v_13 fun h_14 =>
  mm_gR h_14 a1 3 3 fun p_15 =>
  mm_gR h_14 a0 3 3 fun p_16 =>
  mm_gR h_14 a0 3 3 fun p_17 =>
  mm_ln E h_14 p_17 fun v_18 =>
  mm_cp h_14 p_15 0 p_16 0 v_18 fun h_19 =>
  mm_cV [] (cl 43 [.ref a0] h_19) fun h_20 =>
  some (.inl none, h_20) := rfl
-- Net.grow
set_option maxRecDepth 20000 in
set_option maxHeartbeats 4000000 in
theorem mm_e36_0 (E : mm_E) (cl : mm_F) (n : Nat) (a0 : Nat) (h : mm_H) :
  mm_run E cl mm_m36 (n + 1) 0 [some (.ref a0), none, none] [] h =
  mm_gI h a0 3 10 fun v_1 =>
  (mm_br (v_1 < 12) (
  mm_run E cl mm_m36 n 15 [some (.ref a0), some (.int v_1), some (.int 0)] [] h) (
  some (.inl (some (.int (-1))), h))) := rfl
-- Net.grow
set_option maxRecDepth 20000 in
set_option maxHeartbeats 4000000 in
theorem mm_e36_15 (E : mm_E) (cl : mm_F) (n : Nat) (a0 : Nat) (x1 : Int32) (x2 : Int32) (h : mm_H) :
  mm_run E cl mm_m36 (n + 1) 15 [some (.ref a0), some (.int x1), some (.int x2)] [] h =
  (mm_br (7 ≤ x2) (
  mm_gI h a0 3 10 fun v_1 =>
    mm_pF h a0 3 10 (.int (v_1 + 1)) fun h_2 =>
    some (.inl (some (.int x1)), h_2)) (
  (mm_br (x2 = 5) (
    mm_cV [] (cl 31 [.ref a0, .int x1, .int x2, .int (-1)] h) fun h_3 =>
      mm_run E cl mm_m36 n 15 [some (.ref a0), some (.int x1), some (.int (x2 + 1))] [] h_3) (
    (mm_br (x2 = 6) (
      mm_cV [] (cl 31 [.ref a0, .int x1, .int x2, .int (-1)] h) fun h_5 =>
        mm_run E cl mm_m36 n 15 [some (.ref a0), some (.int x1), some (.int (x2 + 1))] [] h_5) (
      mm_cV [] (cl 31 [.ref a0, .int x1, .int x2, .int 0] h) fun h_4 =>
        mm_run E cl mm_m36 n 15 [some (.ref a0), some (.int x1), some (.int (x2 + 1))] [] h_4)))))) := rfl
-- Net.shrink
set_option maxRecDepth 20000 in
set_option maxHeartbeats 4000000 in
theorem mm_e37_0 (E : mm_E) (cl : mm_F) (n : Nat) (a0 : Nat) (h : mm_H) :
  mm_run E cl mm_m37 (n + 1) 0 [some (.ref a0), none] [] h =
  mm_gI h a0 3 10 fun v_1 =>
  (mm_br (v_1 = 0) (
  some (.inl none, h)) (
  mm_gI h a0 3 10 fun v_2 =>
    mm_pF h a0 3 10 (.int (v_2 - 1)) fun h_3 =>
    mm_run E cl mm_m37 n 20 [some (.ref a0), some (.int 0)] [] h_3)) := rfl
-- Net.shrink
set_option maxRecDepth 20000 in
set_option maxHeartbeats 4000000 in
theorem mm_e37_20 (E : mm_E) (cl : mm_F) (n : Nat) (a0 : Nat) (x1 : Int32) (h : mm_H) :
  mm_run E cl mm_m37 (n + 1) 20 [some (.ref a0), some (.int x1)] [] h =
  (mm_br (12 ≤ x1) (
  mm_run E cl mm_m37 n 52 [some (.ref a0), some (.int 0)] [] h) (
  mm_gI h a0 3 10 fun v_1 =>
    mm_cV [] (cl 39 [.ref a0, .int x1, .int v_1] h) fun h_2 =>
    mm_gI h_2 a0 3 10 fun v_3 =>
    mm_cV [] (cl 39 [.ref a0, .int v_3, .int x1] h_2) fun h_4 =>
    mm_run E cl mm_m37 n 20 [some (.ref a0), some (.int (x1 + 1))] [] h_4)) := rfl
-- Net.shrink
set_option maxRecDepth 20000 in
set_option maxHeartbeats 4000000 in
theorem mm_e37_52 (E : mm_E) (cl : mm_F) (n : Nat) (a0 : Nat) (x1 : Int32) (h : mm_H) :
  mm_run E cl mm_m37 (n + 1) 52 [some (.ref a0), some (.int x1)] [] h =
  (mm_br (6 ≤ x1) (
  mm_gR h a0 3 4 fun p_1 =>
    mm_gI h a0 3 10 fun v_2 =>
    mm_wI h p_1 v_2 0 fun h_3 =>
    mm_run E cl mm_m37 n 91 [some (.ref a0), some (.int 0)] [] h_3) (
  mm_gR h a0 3 1 fun p_4 =>
    mm_gI h a0 3 10 fun v_5 =>
    mm_wI h p_4 ((v_5 * 6) + x1) 0 fun h_6 =>
    mm_run E cl mm_m37 n 52 [some (.ref a0), some (.int (x1 + 1))] [] h_6)) := rfl
-- Net.shrink
set_option maxRecDepth 20000 in
set_option maxHeartbeats 4000000 in
theorem mm_e37_91 (E : mm_E) (cl : mm_F) (n : Nat) (a0 : Nat) (x1 : Int32) (h : mm_H) :
  mm_run E cl mm_m37 (n + 1) 91 [some (.ref a0), some (.int x1)] [] h =
  (mm_br (40 ≤ x1) (
  some (.inl none, h)) (
  mm_gR h a0 3 5 fun p_1 =>
    mm_gI h a0 3 10 fun v_2 =>
    mm_wI h p_1 ((v_2 * 40) + x1) 0 fun h_3 =>
    mm_run E cl mm_m37 n 91 [some (.ref a0), some (.int (x1 + 1))] [] h_3)) := rfl
-- Net.join
set_option maxRecDepth 20000 in
set_option maxHeartbeats 4000000 in
theorem mm_e38_0 (E : mm_E) (cl : mm_F) (n : Nat) (a0 : Nat) (x1 : Int32) (x2 : Int32) (h : mm_H) :
  mm_run E cl mm_m38 (n + 1) 0 [some (.ref a0), some (.int x1), some (.int x2)] [] h =
  mm_gR h a0 3 2 fun p_1 =>
  mm_rI E h p_1 x2 fun v_2 =>
  mm_wI h p_1 x2 (v_2 ||| (1 <<< (x1 &&& 31))) fun h_3 =>
  mm_gR h_3 a0 3 3 fun p_4 =>
  mm_rI E h_3 p_4 x1 fun v_5 =>
  mm_wI h_3 p_4 x1 (v_5 ||| (1 <<< (x2 &&& 31))) fun h_6 =>
  some (.inl none, h_6) := rfl
-- Net.part
set_option maxRecDepth 20000 in
set_option maxHeartbeats 4000000 in
theorem mm_e39_0 (E : mm_E) (cl : mm_F) (n : Nat) (a0 : Nat) (x1 : Int32) (x2 : Int32) (h : mm_H) :
  mm_run E cl mm_m39 (n + 1) 0 [some (.ref a0), some (.int x1), some (.int x2)] [] h =
  mm_gR h a0 3 2 fun p_1 =>
  mm_rI E h p_1 x2 fun v_2 =>
  mm_wI h p_1 x2 (v_2 &&& ((1 <<< (x1 &&& 31)) ^^^ (-1))) fun h_3 =>
  mm_gR h_3 a0 3 3 fun p_4 =>
  mm_rI E h_3 p_4 x1 fun v_5 =>
  mm_wI h_3 p_4 x1 (v_5 &&& ((1 <<< (x2 &&& 31)) ^^^ (-1))) fun h_6 =>
  some (.inl none, h_6) := rfl
-- Net.areInOnePart
set_option maxRecDepth 20000 in
set_option maxHeartbeats 4000000 in
theorem mm_e40_0 (E : mm_E) (cl : mm_F) (n : Nat) (a0 : Nat) (x1 : Int32) (x2 : Int32) (h : mm_H) :
  mm_run E cl mm_m40 (n + 1) 0 [some (.ref a0), some (.int x1), some (.int x2), none, none, none] [] h =
  mm_run E cl mm_m40 n 7 [some (.ref a0), some (.int x1), some (.int x2), some (.int (1 <<< (x1 &&& 31))), some (.int 0), none] [] h := rfl
-- Net.areInOnePart
set_option maxRecDepth 20000 in
set_option maxHeartbeats 4000000 in
theorem mm_e40_7 (E : mm_E) (cl : mm_F) (n : Nat) (a0 : Nat) (x1 : Int32) (x2 : Int32) (x3 : Int32) (x4 : Int32) (o5 : Option Value) (h : mm_H) :
  mm_run E cl mm_m40 (n + 1) 7 [some (.ref a0), some (.int x1), some (.int x2), some (.int x3), some (.int x4), o5] [] h =
  mm_gI h a0 3 10 fun v_1 =>
  (mm_br (v_1 ≤ x4) (
  mm_cI [] (cl 61 [.int x3, .int x2] h) fun v_3 h_2 =>
    (mm_bz v_3 (some (.inl (some (.int v_3)), h_2)))) (
  mm_run E cl mm_m40 n 19 [some (.ref a0), some (.int x1), some (.int x2), some (.int x3), some (.int x4), some (.int 0)] [] h)) := rfl
-- Net.areInOnePart
set_option maxRecDepth 20000 in
set_option maxHeartbeats 4000000 in
theorem mm_e40_19 (E : mm_E) (cl : mm_F) (n : Nat) (a0 : Nat) (x1 : Int32) (x2 : Int32) (x3 : Int32) (x4 : Int32) (x5 : Int32) (h : mm_H) :
  mm_run E cl mm_m40 (n + 1) 19 [some (.ref a0), some (.int x1), some (.int x2), some (.int x3), some (.int x4), some (.int x5)] [] h =
  mm_gI h a0 3 10 fun v_1 =>
  (mm_br (v_1 ≤ x5) (
  mm_run E cl mm_m40 n 7 [some (.ref a0), some (.int x1), some (.int x2), some (.int x3), some (.int (x4 + 1)), some (.int x5)] [] h) (
  mm_cI [] (cl 61 [.int x3, .int x5] h) fun v_3 h_2 =>
    (mm_br (v_3 = 0) (
    mm_run E cl mm_m40 n 19 [some (.ref a0), some (.int x1), some (.int x2), some (.int (x3 ||| 0)), some (.int x4), some (.int (x5 + 1))] [] h_2) (
    mm_gR h_2 a0 3 2 fun p_4 =>
      mm_rI E h_2 p_4 x5 fun v_5 =>
      mm_gR h_2 a0 3 3 fun p_6 =>
      mm_rI E h_2 p_6 x5 fun v_7 =>
      mm_run E cl mm_m40 n 19 [some (.ref a0), some (.int x1), some (.int x2), some (.int (x3 ||| (v_5 ||| v_7))), some (.int x4), some (.int (x5 + 1))] [] h_2)))) := rfl
-- Net.supplyCount
set_option maxRecDepth 20000 in
set_option maxHeartbeats 4000000 in
theorem mm_e41_0 (E : mm_E) (cl : mm_F) (n : Nat) (a0 : Nat) (h : mm_H) :
  mm_run E cl mm_m41 (n + 1) 0 [some (.ref a0), none, none] [] h =
  mm_run E cl mm_m41 n 4 [some (.ref a0), some (.int 0), some (.int 0)] [] h := rfl
-- Net.supplyCount
set_option maxRecDepth 20000 in
set_option maxHeartbeats 4000000 in
theorem mm_e41_4 (E : mm_E) (cl : mm_F) (n : Nat) (a0 : Nat) (x1 : Int32) (x2 : Int32) (h : mm_H) :
  mm_run E cl mm_m41 (n + 1) 4 [some (.ref a0), some (.int x1), some (.int x2)] [] h =
  mm_gI h a0 3 10 fun v_1 =>
  (mm_br (v_1 ≤ x2) (
  some (.inl (some (.int x1)), h)) (
  mm_gR h a0 3 2 fun p_2 =>
    mm_rI E h p_2 x2 fun v_3 =>
    mm_cI [] (cl 283 [.int v_3] h) fun v_5 h_4 =>
    mm_run E cl mm_m41 n 4 [some (.ref a0), some (.int (x1 + v_5)), some (.int (x2 + 1))] [] h_4)) := rfl
-- Net.pinCount
set_option maxRecDepth 20000 in
set_option maxHeartbeats 4000000 in
theorem mm_e42_0 (E : mm_E) (cl : mm_F) (n : Nat) (a0 : Nat) (h : mm_H) :
  mm_run E cl mm_m42 (n + 1) 0 [some (.ref a0), none, none] [] h =
  mm_run E cl mm_m42 n 4 [some (.ref a0), some (.int 0), some (.int 0)] [] h := rfl
-- Net.pinCount
set_option maxRecDepth 20000 in
set_option maxHeartbeats 4000000 in
theorem mm_e42_4 (E : mm_E) (cl : mm_F) (n : Nat) (a0 : Nat) (x1 : Int32) (x2 : Int32) (h : mm_H) :
  mm_run E cl mm_m42 (n + 1) 4 [some (.ref a0), some (.int x1), some (.int x2)] [] h =
  mm_gI h a0 3 10 fun v_1 =>
  (mm_br (v_1 ≤ x2) (
  some (.inl (some (.int x1)), h)) (
  mm_cI [] (cl 30 [.ref a0, .int x2, .int 6] h) fun v_3 h_2 =>
    (mm_br (v_3 = (-1)) (
    mm_run E cl mm_m42 n 4 [some (.ref a0), some (.int (x1 + 0)), some (.int (x2 + 1))] [] h_2) (
    mm_run E cl mm_m42 n 4 [some (.ref a0), some (.int (x1 + 1)), some (.int (x2 + 1))] [] h_2)))) := rfl
-- Net.settle
set_option maxRecDepth 20000 in
set_option maxHeartbeats 4000000 in
theorem mm_e43_0 (E : mm_E) (cl : mm_F) (n : Nat) (a0 : Nat) (h : mm_H) :
  mm_run E cl mm_m43 (n + 1) 0 [some (.ref a0), none] [] h =
  mm_gI h a0 3 12 fun v_1 =>
  mm_pF h a0 3 12 (.int (v_1 + 1)) fun h_2 =>
  mm_cV [] (cl 44 [.ref a0] h_2) fun h_3 =>
  mm_run E cl mm_m43 n 16 [some (.ref a0), some (.int 0)] [] h_3 := rfl
-- Net.settle
set_option maxRecDepth 20000 in
set_option maxHeartbeats 4000000 in
theorem mm_e43_16 (E : mm_E) (cl : mm_F) (n : Nat) (a0 : Nat) (x1 : Int32) (h : mm_H) :
  mm_run E cl mm_m43 (n + 1) 16 [some (.ref a0), some (.int x1)] [] h =
  mm_gI h a0 3 10 fun v_1 =>
  (mm_br (v_1 ≤ x1) (
  mm_gI h a0 3 10 fun v_2 =>
    mm_run E cl mm_m43 n 47 [some (.ref a0), some (.int (v_2 - 1))] [] h) (
  mm_gR h a0 3 6 fun p_3 =>
    mm_rI E h p_3 x1 fun v_4 =>
    mm_cV [] (cl 45 [.ref a0, .int v_4] h) fun h_5 =>
    mm_run E cl mm_m43 n 16 [some (.ref a0), some (.int (x1 + 1))] [] h_5)) := rfl
-- Net.settle
set_option maxRecDepth 20000 in
set_option maxHeartbeats 4000000 in
theorem mm_e43_47 (E : mm_E) (cl : mm_F) (n : Nat) (a0 : Nat) (x1 : Int32) (h : mm_H) :
  mm_run E cl mm_m43 (n + 1) 47 [some (.ref a0), some (.int x1)] [] h =
  (mm_br (x1 < 0) (
  some (.inl none, h)) (
  mm_gR h a0 3 6 fun p_1 =>
    mm_rI E h p_1 x1 fun v_2 =>
    mm_cV [] (cl 46 [.ref a0, .int v_2] h) fun h_3 =>
    mm_run E cl mm_m43 n 47 [some (.ref a0), some (.int (x1 + (-1)))] [] h_3)) := rfl
-- Net.sortSuppliersAhead
set_option maxRecDepth 20000 in
set_option maxHeartbeats 4000000 in
theorem mm_e44_0 (E : mm_E) (cl : mm_F) (n : Nat) (a0 : Nat) (h : mm_H) :
  mm_run E cl mm_m44 (n + 1) 0 [some (.ref a0), none, none, none, none] [] h =
  mm_run E cl mm_m44 n 6 [some (.ref a0), some (.int 0), some (.int 0), some (.int 0), none] [] h := rfl
-- Net.sortSuppliersAhead
set_option maxRecDepth 20000 in
set_option maxHeartbeats 4000000 in
theorem mm_e44_6 (E : mm_E) (cl : mm_F) (n : Nat) (a0 : Nat) (x1 : Int32) (x2 : Int32) (x3 : Int32) (o4 : Option Value) (h : mm_H) :
  mm_run E cl mm_m44 (n + 1) 6 [some (.ref a0), some (.int x1), some (.int x2), some (.int x3), o4] [] h =
  mm_gI h a0 3 10 fun v_1 =>
  (mm_br (v_1 ≤ x3) (
  some (.inl none, h)) (
  mm_gI h a0 3 10 fun v_2 =>
    (mm_br (v_2 ≤ x2) (
    some (.inl none, h)) (
    mm_run E cl mm_m44 n 25 [some (.ref a0), some (.int x1), some (.int x2), some (.int x3), some (.int 0)] [] h)))) := rfl
-- Net.sortSuppliersAhead
set_option maxRecDepth 20000 in
set_option maxHeartbeats 4000000 in
theorem mm_e44_25 (E : mm_E) (cl : mm_F) (n : Nat) (a0 : Nat) (x1 : Int32) (x2 : Int32) (x3 : Int32) (x4 : Int32) (h : mm_H) :
  mm_run E cl mm_m44 (n + 1) 25 [some (.ref a0), some (.int x1), some (.int x2), some (.int x3), some (.int x4)] [] h =
  mm_gI h a0 3 10 fun v_1 =>
  (mm_br (v_1 ≤ x4) (
  mm_run E cl mm_m44 n 6 [some (.ref a0), some (.int x1), some (.int x2), some (.int (x3 + 1)), some (.int x4)] [] h) (
  mm_cI [] (cl 61 [.int x1, .int x4] h) fun v_3 h_2 =>
    (mm_br (v_3 = 0) (
    mm_gR h_2 a0 3 2 fun p_4 =>
      mm_rI E h_2 p_4 x4 fun v_5 =>
      (mm_br ((v_5 &&& (x1 ^^^ (-1))) = 0) (
      mm_gR h_2 a0 3 6 fun p_6 =>
        mm_wI h_2 p_6 x2 x4 fun h_7 =>
        mm_run E cl mm_m44 n 25 [some (.ref a0), some (.int (x1 ||| (1 <<< (x4 &&& 31)))), some (.int (x2 + 1)), some (.int x3), some (.int (x4 + 1))] [] h_7) (
      mm_run E cl mm_m44 n 25 [some (.ref a0), some (.int x1), some (.int x2), some (.int x3), some (.int (x4 + 1))] [] h_2))) (
    mm_run E cl mm_m44 n 25 [some (.ref a0), some (.int x1), some (.int x2), some (.int x3), some (.int (x4 + 1))] [] h_2)))) := rfl
-- Net.settleLongest
set_option maxRecDepth 20000 in
set_option maxHeartbeats 4000000 in
theorem mm_e45_0 (E : mm_E) (cl : mm_F) (n : Nat) (a0 : Nat) (x1 : Int32) (h : mm_H) :
  mm_run E cl mm_m45 (n + 1) 0 [some (.ref a0), some (.int x1), none, none] [] h =
  mm_cI [] (cl 30 [.ref a0, .int x1, .int 2] h) fun v_2 h_1 =>
  mm_run E cl mm_m45 n 9 [some (.ref a0), some (.int x1), some (.int v_2), some (.int 0)] [] h_1 := rfl
-- Net.settleLongest
set_option maxRecDepth 20000 in
set_option maxHeartbeats 4000000 in
theorem mm_e45_9 (E : mm_E) (cl : mm_F) (n : Nat) (a0 : Nat) (x1 : Int32) (x2 : Int32) (x3 : Int32) (h : mm_H) :
  mm_run E cl mm_m45 (n + 1) 9 [some (.ref a0), some (.int x1), some (.int x2), some (.int x3)] [] h =
  mm_gI h a0 3 10 fun v_1 =>
  (mm_br (v_1 ≤ x3) (
  mm_gR h a0 3 9 fun p_2 =>
    mm_cI [] (cl 30 [.ref a0, .int x1, .int 0] h) fun v_4 h_3 =>
    mm_wI h_3 p_2 x1 (x2 + v_4) fun h_5 =>
    some (.inl none, h_5)) (
  mm_cI [] (cl 32 [.ref a0, .int x3, .int x1] h) fun v_7 h_6 =>
    (mm_br (v_7 = 0) (
    mm_run E cl mm_m45 n 9 [some (.ref a0), some (.int x1), some (.int x2), some (.int (x3 + 1))] [] h_6) (
    mm_gR h_6 a0 3 9 fun p_8 =>
      mm_rI E h_6 p_8 x3 fun v_9 =>
      mm_run E cl mm_m45 n 9 [some (.ref a0), some (.int x1), some (.int (mm_mx x2 v_9)), some (.int (x3 + 1))] [] h_6)))) := rfl
-- Net.settleFlow
set_option maxRecDepth 20000 in
set_option maxHeartbeats 4000000 in
theorem mm_e46_0 (E : mm_E) (cl : mm_F) (n : Nat) (a0 : Nat) (x1 : Int32) (h : mm_H) :
  mm_run E cl mm_m46 (n + 1) 0 [some (.ref a0), some (.int x1), none] [] h =
  mm_gR h a0 3 7 fun p_1 =>
  mm_cI [] (cl 30 [.ref a0, .int x1, .int 3] h) fun v_3 h_2 =>
  mm_wI h_2 p_1 x1 v_3 fun h_4 =>
  mm_gR h_4 a0 3 8 fun p_5 =>
  mm_cI [] (cl 30 [.ref a0, .int x1, .int 4] h_4) fun v_7 h_6 =>
  mm_wI h_6 p_5 x1 v_7 fun h_8 =>
  mm_run E cl mm_m46 n 26 [some (.ref a0), some (.int x1), some (.int 0)] [] h_8 := rfl
-- Net.settleFlow
set_option maxRecDepth 20000 in
set_option maxHeartbeats 4000000 in
theorem mm_e46_26 (E : mm_E) (cl : mm_F) (n : Nat) (a0 : Nat) (x1 : Int32) (x2 : Int32) (h : mm_H) :
  mm_run E cl mm_m46 (n + 1) 26 [some (.ref a0), some (.int x1), some (.int x2)] [] h =
  mm_gI h a0 3 10 fun v_1 =>
  (mm_br (v_1 ≤ x2) (
  some (.inl none, h)) (
  mm_cI [] (cl 32 [.ref a0, .int x1, .int x2] h) fun v_3 h_2 =>
    (mm_br (v_3 = 0) (
    mm_run E cl mm_m46 n 26 [some (.ref a0), some (.int x1), some (.int (x2 + 1))] [] h_2) (
    mm_gR h_2 a0 3 7 fun p_4 =>
      mm_rI E h_2 p_4 x1 fun v_5 =>
      mm_gR h_2 a0 3 7 fun p_6 =>
      mm_rI E h_2 p_6 x2 fun v_7 =>
      mm_wI h_2 p_4 x1 (v_5 + v_7) fun h_8 =>
      mm_gR h_8 a0 3 8 fun p_9 =>
      mm_rI E h_8 p_9 x1 fun v_10 =>
      mm_gR h_8 a0 3 8 fun p_11 =>
      mm_rI E h_8 p_11 x2 fun v_12 =>
      mm_wI h_8 p_9 x1 (v_10 + v_12) fun h_13 =>
      mm_run E cl mm_m46 n 26 [some (.ref a0), some (.int x1), some (.int (x2 + 1))] [] h_13)))) := rfl
-- Net.rootBy
set_option maxRecDepth 20000 in
set_option maxHeartbeats 4000000 in
theorem mm_e47_0 (E : mm_E) (cl : mm_F) (n : Nat) (a0 : Nat) (x1 : Int32) (x2 : Int32) (h : mm_H) :
  mm_run E cl mm_m47 (n + 1) 0 [some (.ref a0), some (.int x1), some (.int x2)] [] h =
  mm_cI [] (cl 48 [.ref a0, .int 0, .int x1, .int x2] h) fun v_2 h_1 =>
  some (.inl (some (.int v_2)), h_1) := rfl
-- Net.rootFrom
set_option maxRecDepth 20000 in
set_option maxHeartbeats 4000000 in
theorem mm_e48_0 (E : mm_E) (cl : mm_F) (n : Nat) (a0 : Nat) (x1 : Int32) (x2 : Int32) (x3 : Int32) (h : mm_H) :
  mm_run E cl mm_m48 (n + 1) 0 [some (.ref a0), some (.int x1), some (.int x2), some (.int x3), none, none, none, none, none, none] [] h =
  mm_gI h a0 3 11 fun v_1 =>
  mm_gI h a0 3 11 fun v_2 =>
  mm_gR h a0 3 8 fun p_3 =>
  mm_rI E h p_3 x2 fun v_4 =>
  mm_run E cl mm_m48 n 33 [some (.ref a0), some (.int x1), some (.int x2), some (.int x3), some (.long ((((Int32.toInt64 v_1) * (Int32.toInt64 v_2)) * (Int32.toInt64 v_4)) * (Int32.toInt64 x3))), none, some (.int x1), some (.int x1), some (.int 0), none] [] h := rfl
-- Net.rootFrom
set_option maxRecDepth 20000 in
set_option maxHeartbeats 4000000 in
theorem mm_e48_33 (E : mm_E) (cl : mm_F) (n : Nat) (a0 : Nat) (x1 : Int32) (x2 : Int32) (x3 : Int32) (y4 : Int64) (x6 : Int32) (x7 : Int32) (x8 : Int32) (o9 : Option Value) (h : mm_H) :
  mm_run E cl mm_m48 (n + 1) 33 [some (.ref a0), some (.int x1), some (.int x2), some (.int x3), some (.long y4), none, some (.int x6), some (.int x7), some (.int x8), o9] [] h =
  (mm_br (20 ≤ x8) (
  mm_run E cl mm_m48 n 81 [some (.ref a0), some (.int x1), some (.int x2), some (.int x3), some (.long y4), none, some (.int x6), some (.int x7), some (.int 0), o9] [] h) (
  (mm_br (0 ≤ (lg_cmp ((10000 * (Int32.toInt64 x7)) * (Int32.toInt64 x7)) y4)) (
    mm_run E cl mm_m48 n 81 [some (.ref a0), some (.int x1), some (.int x2), some (.int x3), some (.long y4), none, some (.int x6), some (.int x7), some (.int 0), o9] [] h) (
    mm_run E cl mm_m48 n 33 [some (.ref a0), some (.int x1), some (.int x2), some (.int x3), some (.long y4), none, some (.int (x7 + 1)), some (.int (x7 + (1 <<< (x8 &&& 31)))), some (.int (x8 + 1)), o9] [] h)))) := rfl
-- Net.rootFrom
set_option maxRecDepth 20000 in
set_option maxHeartbeats 4000000 in
theorem mm_e48_81 (E : mm_E) (cl : mm_F) (n : Nat) (a0 : Nat) (x1 : Int32) (x2 : Int32) (x3 : Int32) (y4 : Int64) (x6 : Int32) (x7 : Int32) (x8 : Int32) (o9 : Option Value) (h : mm_H) :
  mm_run E cl mm_m48 (n + 1) 81 [some (.ref a0), some (.int x1), some (.int x2), some (.int x3), some (.long y4), none, some (.int x6), some (.int x7), some (.int x8), o9] [] h =
  (mm_br (20 ≤ x8) (
  some (.inl (some (.int x6)), h)) (
  (mm_br (x7 ≤ x6) (
    some (.inl (some (.int x6)), h)) (
    (mm_nz 2 (
      (mm_br ((lg_cmp ((10000 * (Int32.toInt64 ((x6 + x7) / 2))) * (Int32.toInt64 ((x6 + x7) / 2))) y4) < 0) (
      mm_run E cl mm_m48 n 81 [some (.ref a0), some (.int x1), some (.int x2), some (.int x3), some (.long y4), none, some (.int (((x6 + x7) / 2) + 1)), some (.int x7), some (.int (x8 + 1)), some (.int ((x6 + x7) / 2))] [] h) (
      mm_run E cl mm_m48 n 81 [some (.ref a0), some (.int x1), some (.int x2), some (.int x3), some (.long y4), none, some (.int x6), some (.int ((x6 + x7) / 2)), some (.int (x8 + 1)), some (.int ((x6 + x7) / 2))] [] h)))))))) := rfl
-- Net.boundBy
set_option maxRecDepth 20000 in
set_option maxHeartbeats 4000000 in
theorem mm_e49_0 (E : mm_E) (cl : mm_F) (n : Nat) (a0 : Nat) (x1 : Int32) (x2 : Int32) (h : mm_H) :
  mm_run E cl mm_m49 (n + 1) 0 [some (.ref a0), some (.int x1), some (.int x2)] [] h =
  mm_gR h a0 3 7 fun p_1 =>
  mm_rI E h p_1 x1 fun v_2 =>
  mm_cI [] (cl 47 [.ref a0, .int x1, .int x2] h) fun v_4 h_3 =>
  some (.inl (some (.int ((x2 * v_2) + v_4))), h_3) := rfl
-- Net.waitOf
set_option maxRecDepth 20000 in
set_option maxHeartbeats 4000000 in
theorem mm_e50_0 (E : mm_E) (cl : mm_F) (n : Nat) (a0 : Nat) (x1 : Int32) (h : mm_H) :
  mm_run E cl mm_m50 (n + 1) 0 [some (.ref a0), some (.int x1), none, none] [] h =
  mm_cI [] (cl 30 [.ref a0, .int x1, .int 2] h) fun v_2 h_1 =>
  mm_run E cl mm_m50 n 9 [some (.ref a0), some (.int x1), some (.int v_2), some (.int 0)] [] h_1 := rfl
-- Net.waitOf
set_option maxRecDepth 20000 in
set_option maxHeartbeats 4000000 in
theorem mm_e50_9 (E : mm_E) (cl : mm_F) (n : Nat) (a0 : Nat) (x1 : Int32) (x2 : Int32) (x3 : Int32) (h : mm_H) :
  mm_run E cl mm_m50 (n + 1) 9 [some (.ref a0), some (.int x1), some (.int x2), some (.int x3)] [] h =
  mm_gI h a0 3 10 fun v_1 =>
  (mm_br (v_1 ≤ x3) (
  some (.inl (some (.int x2)), h)) (
  mm_cI [] (cl 32 [.ref a0, .int x3, .int x1] h) fun v_3 h_2 =>
    (mm_br (v_3 = 0) (
    mm_run E cl mm_m50 n 9 [some (.ref a0), some (.int x1), some (.int x2), some (.int (x3 + 1))] [] h_2) (
    mm_gR h_2 a0 3 4 fun p_4 =>
      mm_rI E h_2 p_4 x3 fun v_5 =>
      mm_run E cl mm_m50 n 9 [some (.ref a0), some (.int x1), some (.int (mm_mx x2 v_5)), some (.int (x3 + 1))] [] h_2)))) := rfl
-- Net.netOf
set_option maxRecDepth 20000 in
set_option maxHeartbeats 4000000 in
theorem mm_e51_0 (E : mm_E) (cl : mm_F) (n : Nat) (a0 : Nat) (x1 : Int32) (h : mm_H) :
  mm_run E cl mm_m51 (n + 1) 0 [some (.ref a0), some (.int x1)] [] h =
  mm_cI [] (cl 50 [.ref a0, .int x1] h) fun v_2 h_1 =>
  mm_cI [] (cl 30 [.ref a0, .int x1, .int 0] h_1) fun v_4 h_3 =>
  mm_gR h_3 a0 3 4 fun p_5 =>
  mm_rI E h_3 p_5 x1 fun v_6 =>
  some (.inl (some (.int ((v_2 + v_4) - v_6))), h_3) := rfl
-- Net.byPlan
set_option maxRecDepth 20000 in
set_option maxHeartbeats 4000000 in
theorem mm_e52_0 (E : mm_E) (cl : mm_F) (n : Nat) (a0 : Nat) (x1 : Int32) (x2 : Int32) (h : mm_H) :
  mm_run E cl mm_m52 (n + 1) 0 [some (.ref a0), some (.int x1), some (.int x2), none] [] h =
  mm_cI [] (cl 51 [.ref a0, .int x1] h) fun v_2 h_1 =>
  (mm_br (x2 = 0) (
  mm_gR h_1 a0 3 4 fun p_13 =>
    mm_rI E h_1 p_13 x1 fun v_14 =>
    some (.inl (some (.int v_14)), h_1)) (
  (mm_br (x2 = 1) (
  mm_cI [] (cl 50 [.ref a0, .int x1] h_1) fun v_12 h_11 =>
    some (.inl (some (.int v_12)), h_11)) (
  (mm_br (x2 = 2) (
  some (.inl (some (.int v_2)), h_1)) (
  (mm_br (x2 = 3) (
  (mm_br (0 ≤ v_2) (
    mm_cI [] (cl 47 [.ref a0, .int x1, .int v_2] h_1) fun v_10 h_9 =>
      some (.inl (some (.int v_10)), h_9)) (
    some (.inl (some (.int (-1))), h_1)))) (
  (mm_br (x2 = 4) (
  (mm_br (0 ≤ v_2) (
    mm_cI [] (cl 49 [.ref a0, .int x1, .int v_2] h_1) fun v_8 h_7 =>
      some (.inl (some (.int v_8)), h_7)) (
    some (.inl (some (.int (-1))), h_1)))) (
  (mm_br (0 ≤ v_2) (
  mm_cI [] (cl 30 [.ref a0, .int x1, .int 1] h_1) fun v_4 h_3 =>
    mm_cI [] (cl 47 [.ref a0, .int x1, .int v_2] h_3) fun v_6 h_5 =>
    some (.inl (some (.int (v_4 * v_6))), h_5)) (
  some (.inl (some (.int (-1))), h_1))))))))))))) := rfl
-- Net.firstNotHolding
set_option maxRecDepth 20000 in
set_option maxHeartbeats 4000000 in
theorem mm_e53_0 (E : mm_E) (cl : mm_F) (n : Nat) (a0 : Nat) (h : mm_H) :
  mm_run E cl mm_m53 (n + 1) 0 [some (.ref a0), none, none, none] [] h =
  mm_run E cl mm_m53 n 2 [some (.ref a0), some (.int 0), none, none] [] h := rfl
-- Net.firstNotHolding
set_option maxRecDepth 20000 in
set_option maxHeartbeats 4000000 in
theorem mm_e53_2 (E : mm_E) (cl : mm_F) (n : Nat) (a0 : Nat) (x1 : Int32) (o2 : Option Value) (o3 : Option Value) (h : mm_H) :
  mm_run E cl mm_m53 (n + 1) 2 [some (.ref a0), some (.int x1), o2, o3] [] h =
  mm_gI h a0 3 10 fun v_1 =>
  (mm_br (v_1 ≤ x1) (
  some (.inl (some (.int (-1))), h)) (
  mm_cI [] (cl 30 [.ref a0, .int x1, .int 5] h) fun v_3 h_2 =>
    mm_cI [] (cl 30 [.ref a0, .int x1, .int 6] h_2) fun v_5 h_4 =>
    mm_cI [] (cl 51 [.ref a0, .int x1] h_4) fun v_7 h_6 =>
    (mm_br (v_7 < 0) (
    some (.inl (some (.int x1)), h_6)) (
    (mm_br (v_3 = (-1)) (
      (mm_br (v_5 = (-1)) (
        mm_run E cl mm_m53 n 2 [some (.ref a0), some (.int (x1 + 1)), some (.int v_3), some (.int v_5)] [] h_6) (
        mm_gR h_6 a0 3 4 fun p_8 =>
          mm_rI E h_6 p_8 x1 fun v_9 =>
          (mm_br (v_9 = v_5) (
          mm_run E cl mm_m53 n 2 [some (.ref a0), some (.int (x1 + 1)), some (.int v_3), some (.int v_5)] [] h_6) (
          some (.inl (some (.int x1)), h_6)))))) (
      mm_gR h_6 a0 3 4 fun p_10 =>
        mm_rI E h_6 p_10 x1 fun v_11 =>
        (mm_br (v_3 < v_11) (
        some (.inl (some (.int x1)), h_6)) (
        (mm_br (v_5 = (-1)) (
          mm_run E cl mm_m53 n 2 [some (.ref a0), some (.int (x1 + 1)), some (.int v_3), some (.int v_5)] [] h_6) (
          mm_gR h_6 a0 3 4 fun p_12 =>
            mm_rI E h_6 p_12 x1 fun v_13 =>
            (mm_br (v_13 = v_5) (
            mm_run E cl mm_m53 n 2 [some (.ref a0), some (.int (x1 + 1)), some (.int v_3), some (.int v_5)] [] h_6) (
            some (.inl (some (.int x1)), h_6))))))))))))) := rfl
-- Net.priceAtHand
set_option maxRecDepth 20000 in
set_option maxHeartbeats 4000000 in
theorem mm_e54_0 (E : mm_E) (cl : mm_F) (n : Nat) (a0 : Nat) (h : mm_H) :
  mm_run E cl mm_m54 (n + 1) 0 [some (.ref a0), none, none] [] h =
  mm_run E cl mm_m54 n 4 [some (.ref a0), some (.int 0), some (.int 0)] [] h := rfl
-- Net.priceAtHand
set_option maxRecDepth 20000 in
set_option maxHeartbeats 4000000 in
theorem mm_e54_4 (E : mm_E) (cl : mm_F) (n : Nat) (a0 : Nat) (x1 : Int32) (x2 : Int32) (h : mm_H) :
  mm_run E cl mm_m54 (n + 1) 4 [some (.ref a0), some (.int x1), some (.int x2)] [] h =
  mm_gI h a0 3 10 fun v_1 =>
  (mm_br (v_1 ≤ x2) (
  some (.inl (some (.int x1)), h)) (
  mm_cI [] (cl 52 [.ref a0, .int x2, .int 5] h) fun v_3 h_2 =>
    mm_run E cl mm_m54 n 4 [some (.ref a0), some (.int (x1 + v_3)), some (.int (x2 + 1))] [] h_2)) := rfl
-- Net.holding
set_option maxRecDepth 20000 in
set_option maxHeartbeats 4000000 in
theorem mm_e55_0 (E : mm_E) (cl : mm_F) (n : Nat) (a0 : Nat) (h : mm_H) :
  mm_run E cl mm_m55 (n + 1) 0 [some (.ref a0), none, none] [] h =
  mm_run E cl mm_m55 n 4 [some (.ref a0), some (.int 0), some (.int 0)] [] h := rfl
-- Net.holding
set_option maxRecDepth 20000 in
set_option maxHeartbeats 4000000 in
theorem mm_e55_4 (E : mm_E) (cl : mm_F) (n : Nat) (a0 : Nat) (x1 : Int32) (x2 : Int32) (h : mm_H) :
  mm_run E cl mm_m55 (n + 1) 4 [some (.ref a0), some (.int x1), some (.int x2)] [] h =
  mm_gI h a0 3 10 fun v_1 =>
  (mm_br (v_1 ≤ x2) (
  some (.inl (some (.int x1)), h)) (
  mm_cI [] (cl 52 [.ref a0, .int x2, .int 3] h) fun v_3 h_2 =>
    (mm_br (v_3 ≤ 0) (
    mm_run E cl mm_m55 n 4 [some (.ref a0), some (.int (x1 ||| 0)), some (.int (x2 + 1))] [] h_2) (
    mm_run E cl mm_m55 n 4 [some (.ref a0), some (.int (x1 ||| (1 <<< (x2 &&& 31)))), some (.int (x2 + 1))] [] h_2)))) := rfl
-- Net.planZero
set_option maxRecDepth 20000 in
set_option maxHeartbeats 4000000 in
theorem mm_e56_0 (E : mm_E) (cl : mm_F) (n : Nat) (a0 : Nat) (h : mm_H) :
  mm_run E cl mm_m56 (n + 1) 0 [some (.ref a0), none] [] h =
  mm_run E cl mm_m56 n 2 [some (.ref a0), some (.int 0)] [] h := rfl
-- Net.planZero
set_option maxRecDepth 20000 in
set_option maxHeartbeats 4000000 in
theorem mm_e56_2 (E : mm_E) (cl : mm_F) (n : Nat) (a0 : Nat) (x1 : Int32) (h : mm_H) :
  mm_run E cl mm_m56 (n + 1) 2 [some (.ref a0), some (.int x1)] [] h =
  mm_gI h a0 3 10 fun v_1 =>
  (mm_br (v_1 ≤ x1) (
  some (.inl none, h)) (
  mm_gR h a0 3 4 fun p_2 =>
    mm_wI h p_2 x1 0 fun h_3 =>
    mm_run E cl mm_m56 n 2 [some (.ref a0), some (.int (x1 + 1))] [] h_3)) := rfl
-- Net.planLazily
set_option maxRecDepth 20000 in
set_option maxHeartbeats 4000000 in
theorem mm_e57_0 (E : mm_E) (cl : mm_F) (n : Nat) (a0 : Nat) (h : mm_H) :
  mm_run E cl mm_m57 (n + 1) 0 [some (.ref a0), none, none, none] [] h =
  mm_run E cl mm_m57 n 2 [some (.ref a0), some (.int 0), none, none] [] h := rfl
-- Net.planLazily
set_option maxRecDepth 20000 in
set_option maxHeartbeats 4000000 in
theorem mm_e57_2 (E : mm_E) (cl : mm_F) (n : Nat) (a0 : Nat) (x1 : Int32) (o2 : Option Value) (o3 : Option Value) (h : mm_H) :
  mm_run E cl mm_m57 (n + 1) 2 [some (.ref a0), some (.int x1), o2, o3] [] h =
  mm_gI h a0 3 10 fun v_1 =>
  (mm_br (v_1 ≤ x1) (
  some (.inl none, h)) (
  mm_gR h a0 3 6 fun p_2 =>
    mm_rI E h p_2 x1 fun v_3 =>
    mm_cI [] (cl 50 [.ref a0, .int v_3] h) fun v_5 h_4 =>
    mm_cI [] (cl 30 [.ref a0, .int v_3, .int 0] h_4) fun v_7 h_6 =>
    mm_cI [] (cl 30 [.ref a0, .int v_3, .int 5] h_6) fun v_9 h_8 =>
    (mm_br (v_9 = (-1)) (
    mm_gR h_8 a0 3 4 fun p_19 =>
      mm_cI [] (cl 30 [.ref a0, .int v_3, .int 6] h_8) fun v_21 h_20 =>
      (mm_br (v_21 = (-1)) (
      mm_wI h_20 p_19 v_3 (v_5 + v_7) fun h_25 =>
        mm_run E cl mm_m57 n 2 [some (.ref a0), some (.int (x1 + 1)), some (.int v_3), some (.int (v_5 + v_7))] [] h_25) (
      mm_cI [] (cl 30 [.ref a0, .int v_3, .int 6] h_20) fun v_23 h_22 =>
        mm_wI h_22 p_19 v_3 (mm_mn (v_5 + v_7) v_23) fun h_24 =>
        mm_run E cl mm_m57 n 2 [some (.ref a0), some (.int (x1 + 1)), some (.int v_3), some (.int (v_5 + v_7))] [] h_24))) (
    mm_cI [] (cl 30 [.ref a0, .int v_3, .int 5] h_8) fun v_11 h_10 =>
      mm_gR h_10 a0 3 4 fun p_12 =>
      mm_cI [] (cl 30 [.ref a0, .int v_3, .int 6] h_10) fun v_14 h_13 =>
      (mm_br (v_14 = (-1)) (
      mm_wI h_13 p_12 v_3 (mm_mn (v_5 + v_7) v_11) fun h_18 =>
        mm_run E cl mm_m57 n 2 [some (.ref a0), some (.int (x1 + 1)), some (.int v_3), some (.int (mm_mn (v_5 + v_7) v_11))] [] h_18) (
      mm_cI [] (cl 30 [.ref a0, .int v_3, .int 6] h_13) fun v_16 h_15 =>
        mm_wI h_15 p_12 v_3 (mm_mn (mm_mn (v_5 + v_7) v_11) v_16) fun h_17 =>
        mm_run E cl mm_m57 n 2 [some (.ref a0), some (.int (x1 + 1)), some (.int v_3), some (.int (mm_mn (v_5 + v_7) v_11))] [] h_17)))))) := rfl
-- Net.planHalf
set_option maxRecDepth 20000 in
set_option maxHeartbeats 4000000 in
theorem mm_e58_0 (E : mm_E) (cl : mm_F) (n : Nat) (a0 : Nat) (h : mm_H) :
  mm_run E cl mm_m58 (n + 1) 0 [some (.ref a0), none] [] h =
  mm_cV [] (cl 57 [.ref a0] h) fun h_1 =>
  mm_run E cl mm_m58 n 6 [some (.ref a0), some (.int 0)] [] h_1 := rfl
-- Net.planHalf
set_option maxRecDepth 20000 in
set_option maxHeartbeats 4000000 in
theorem mm_e58_6 (E : mm_E) (cl : mm_F) (n : Nat) (a0 : Nat) (x1 : Int32) (h : mm_H) :
  mm_run E cl mm_m58 (n + 1) 6 [some (.ref a0), some (.int x1)] [] h =
  mm_gI h a0 3 10 fun v_1 =>
  (mm_br (v_1 ≤ x1) (
  some (.inl none, h)) (
  mm_gR h a0 3 4 fun p_2 =>
    mm_cI [] (cl 30 [.ref a0, .int x1, .int 6] h) fun v_4 h_3 =>
    (mm_br (v_4 = (-1)) (
    mm_gR h_3 a0 3 4 fun p_8 =>
      mm_rI E h_3 p_8 x1 fun v_9 =>
      (mm_nz 2 (
      mm_wI h_3 p_2 x1 (v_9 / 2) fun h_10 =>
      mm_run E cl mm_m58 n 6 [some (.ref a0), some (.int (x1 + 1))] [] h_10))) (
    mm_cI [] (cl 30 [.ref a0, .int x1, .int 6] h_3) fun v_6 h_5 =>
      mm_wI h_5 p_2 x1 v_6 fun h_7 =>
      mm_run E cl mm_m58 n 6 [some (.ref a0), some (.int (x1 + 1))] [] h_7)))) := rfl
-- Net.allBelow
set_option maxRecDepth 20000 in
set_option maxHeartbeats 4000000 in
theorem mm_e59_0 (E : mm_E) (cl : mm_F) (n : Nat) (a0 : Nat) (x1 : Int32) (h : mm_H) :
  mm_run E cl mm_m59 (n + 1) 0 [some (.ref a0), some (.int x1), none, none] [] h =
  mm_run E cl mm_m59 n 6 [some (.ref a0), some (.int x1), some (.int (1 <<< (x1 &&& 31))), some (.int 0)] [] h := rfl
-- Net.allBelow
set_option maxRecDepth 20000 in
set_option maxHeartbeats 4000000 in
theorem mm_e59_6 (E : mm_E) (cl : mm_F) (n : Nat) (a0 : Nat) (x1 : Int32) (x2 : Int32) (x3 : Int32) (h : mm_H) :
  mm_run E cl mm_m59 (n + 1) 6 [some (.ref a0), some (.int x1), some (.int x2), some (.int x3)] [] h =
  mm_gI h a0 3 10 fun v_1 =>
  (mm_br (v_1 ≤ x3) (
  some (.inl (some (.int x2)), h)) (
  mm_gR h a0 3 6 fun p_2 =>
    mm_rI E h p_2 x3 fun v_3 =>
    mm_cI [] (cl 61 [.int x2, .int v_3] h) fun v_5 h_4 =>
    (mm_br (v_5 = 0) (
    mm_run E cl mm_m59 n 6 [some (.ref a0), some (.int x1), some (.int (x2 ||| 0)), some (.int (x3 + 1))] [] h_4) (
    mm_gR h_4 a0 3 3 fun p_6 =>
      mm_gR h_4 a0 3 6 fun p_7 =>
      mm_rI E h_4 p_7 x3 fun v_8 =>
      mm_rI E h_4 p_6 v_8 fun v_9 =>
      mm_run E cl mm_m59 n 6 [some (.ref a0), some (.int x1), some (.int (x2 ||| v_9)), some (.int (x3 + 1))] [] h_4)))) := rfl
-- Net.aheadInChain
set_option maxRecDepth 20000 in
set_option maxHeartbeats 4000000 in
theorem mm_e60_0 (E : mm_E) (cl : mm_F) (n : Nat) (a0 : Nat) (x1 : Int32) (h : mm_H) :
  mm_run E cl mm_m60 (n + 1) 0 [some (.ref a0), some (.int x1), none, none] [] h =
  mm_run E cl mm_m60 n 4 [some (.ref a0), some (.int x1), some (.int (-1)), some (.int 0)] [] h := rfl
