/-! EQUATIONS of the runs (by program: wip/whole/eqgen.py) -/
-- Mod.layWaits
set_option maxRecDepth 20000 in
set_option maxHeartbeats 4000000 in
theorem mm_e198_28 (E : mm_E) (cl : mm_F) (n : Nat) (a0 : Nat) (x1 : Int32) (x2 : Int32) (x3 : Int32) (x4 : Int32) (x5 : Int32) (h : mm_H) :
  mm_run E cl mm_m198 (n + 1) 28 [some (.ref a0), some (.int x1), some (.int x2), some (.int x3), some (.int x4), some (.int x5)] [] h =
  mm_gI h a0 9 15 fun v_1 =>
  (mm_br (v_1 < x5) (
  mm_run E cl mm_m198 n 2 [some (.ref a0), some (.int x1), some (.int x2), some (.int (x3 + 1)), some (.int x4), some (.int x5)] [] h) (
  mm_gR h a0 9 8 fun p_2 =>
    mm_rI E h p_2 ((120 * x3) + x5) fun v_3 =>
    mm_gR h a0 9 9 fun p_4 =>
    mm_wI h p_4 ((120 * x3) + x5) (mm_mn x4 v_3) fun h_5 =>
    mm_run E cl mm_m198 n 28 [some (.ref a0), some (.int x1), some (.int x2), some (.int x3), some (.int (mm_mn x4 v_3)), some (.int (x5 + 1))] [] h_5)) := rfl
-- Mod.layWaits
set_option maxRecDepth 20000 in
set_option maxHeartbeats 4000000 in
theorem mm_e198_84 (E : mm_E) (cl : mm_F) (n : Nat) (a0 : Nat) (x1 : Int32) (x2 : Int32) (x3 : Int32) (o4 : Option Value) (o5 : Option Value) (h : mm_H) :
  mm_run E cl mm_m198 (n + 1) 84 [some (.ref a0), some (.int x1), some (.int x2), some (.int x3), o4, o5] [] h =
  mm_gI h a0 9 15 fun v_1 =>
  (mm_br (v_1 < x3) (
  some (.inl none, h)) (
  mm_cI [] (cl 152 [.ref a0, .int x1, .int 2] h) fun v_3 h_2 =>
    (mm_br (x3 < v_3) (
    mm_gR h_2 a0 9 11 fun p_4 =>
      (mm_br ((0 : Int32) = 0) (
      mm_wI h_2 p_4 x3 1000000000 fun h_5 =>
        mm_run E cl mm_m198 n 129 [some (.ref a0), some (.int x1), some (.int x2), some (.int x3), some (.int 0), some (.int 0)] [] h_5) (
      mm_wI h_2 p_4 x3 0 fun h_6 =>
        mm_run E cl mm_m198 n 129 [some (.ref a0), some (.int x1), some (.int x2), some (.int x3), some (.int 0), some (.int 0)] [] h_6))) (
    mm_gR h_2 a0 9 11 fun p_7 =>
      (mm_br ((1 : Int32) = 0) (
      mm_wI h_2 p_7 x3 1000000000 fun h_8 =>
        mm_run E cl mm_m198 n 129 [some (.ref a0), some (.int x1), some (.int x2), some (.int x3), some (.int 1), some (.int 0)] [] h_8) (
      mm_wI h_2 p_7 x3 0 fun h_9 =>
        mm_run E cl mm_m198 n 129 [some (.ref a0), some (.int x1), some (.int x2), some (.int x3), some (.int 1), some (.int 0)] [] h_9)))))) := rfl
-- Mod.layWaits
set_option maxRecDepth 20000 in
set_option maxHeartbeats 4000000 in
theorem mm_e198_129 (E : mm_E) (cl : mm_F) (n : Nat) (a0 : Nat) (x1 : Int32) (x2 : Int32) (x3 : Int32) (x4 : Int32) (x5 : Int32) (h : mm_H) :
  mm_run E cl mm_m198 (n + 1) 129 [some (.ref a0), some (.int x1), some (.int x2), some (.int x3), some (.int x4), some (.int x5)] [] h =
  mm_cI [] (cl 150 [.ref a0] h) fun v_2 h_1 =>
  (mm_br (v_2 ≤ x5) (
  mm_gR h_1 a0 9 10 fun p_3 =>
    mm_cI [] (cl 152 [.ref a0, .int x1, .int 2] h_1) fun v_5 h_4 =>
    (mm_br (x3 = v_5) (
    mm_gR h_4 a0 9 11 fun p_7 =>
      mm_rI E h_4 p_7 x3 fun v_8 =>
      mm_wI h_4 p_3 x3 v_8 fun h_9 =>
      mm_run E cl mm_m198 n 215 [some (.ref a0), some (.int x1), some (.int x2), some (.int x3), some (.int x4), some (.int 0)] [] h_9) (
    mm_wI h_4 p_3 x3 1000000000 fun h_6 =>
      mm_run E cl mm_m198 n 215 [some (.ref a0), some (.int x1), some (.int x2), some (.int x3), some (.int x4), some (.int 0)] [] h_6))) (
  (mm_br (x4 = 0) (
    mm_gR h_1 a0 9 10 fun p_10 =>
      mm_cI [] (cl 152 [.ref a0, .int x1, .int 2] h_1) fun v_12 h_11 =>
      (mm_br (x3 = v_12) (
      mm_gR h_11 a0 9 11 fun p_14 =>
        mm_rI E h_11 p_14 x3 fun v_15 =>
        mm_wI h_11 p_10 x3 v_15 fun h_16 =>
        mm_run E cl mm_m198 n 215 [some (.ref a0), some (.int x1), some (.int x2), some (.int x3), some (.int x4), some (.int 0)] [] h_16) (
      mm_wI h_11 p_10 x3 1000000000 fun h_13 =>
        mm_run E cl mm_m198 n 215 [some (.ref a0), some (.int x1), some (.int x2), some (.int x3), some (.int x4), some (.int 0)] [] h_13))) (
    mm_cI [] (cl 159 [.int x2, .int x5] h_1) fun v_18 h_17 =>
      (mm_br (v_18 = 0) (
      mm_run E cl mm_m198 n 129 [some (.ref a0), some (.int x1), some (.int x2), some (.int x3), some (.int x4), some (.int (x5 + 1))] [] h_17) (
      mm_gR h_17 a0 9 11 fun p_19 =>
        mm_gR h_17 a0 9 11 fun p_20 =>
        mm_rI E h_17 p_20 x3 fun v_21 =>
        mm_gR h_17 a0 9 9 fun p_22 =>
        mm_rI E h_17 p_22 ((120 * x5) + x3) fun v_23 =>
        mm_cI [] (cl 191 [.int v_21, .int v_23] h_17) fun v_25 h_24 =>
        mm_wI h_24 p_19 x3 v_25 fun h_26 =>
        mm_run E cl mm_m198 n 129 [some (.ref a0), some (.int x1), some (.int x2), some (.int x3), some (.int x4), some (.int (x5 + 1))] [] h_26)))))) := rfl
-- Mod.layWaits
set_option maxRecDepth 20000 in
set_option maxHeartbeats 4000000 in
theorem mm_e198_215 (E : mm_E) (cl : mm_F) (n : Nat) (a0 : Nat) (x1 : Int32) (x2 : Int32) (x3 : Int32) (x4 : Int32) (x5 : Int32) (h : mm_H) :
  mm_run E cl mm_m198 (n + 1) 215 [some (.ref a0), some (.int x1), some (.int x2), some (.int x3), some (.int x4), some (.int x5)] [] h =
  mm_cI [] (cl 150 [.ref a0] h) fun v_2 h_1 =>
  (mm_br (v_2 ≤ x5) (
  mm_run E cl mm_m198 n 84 [some (.ref a0), some (.int x1), some (.int x2), some (.int (x3 + 1)), some (.int x4), some (.int x5)] [] h_1) (
  (mm_br (x4 = 0) (
    mm_run E cl mm_m198 n 84 [some (.ref a0), some (.int x1), some (.int x2), some (.int (x3 + 1)), some (.int x4), some (.int x5)] [] h_1) (
    mm_cI [] (cl 159 [.int x2, .int x5] h_1) fun v_4 h_3 =>
      (mm_br (v_4 = 0) (
      mm_run E cl mm_m198 n 215 [some (.ref a0), some (.int x1), some (.int x2), some (.int x3), some (.int x4), some (.int (x5 + 1))] [] h_3) (
      mm_gR h_3 a0 9 10 fun p_5 =>
        mm_gR h_3 a0 9 10 fun p_6 =>
        mm_rI E h_3 p_6 x3 fun v_7 =>
        mm_cI [] (cl 199 [.ref a0, .int x2, .int x5, .int x3] h_3) fun v_9 h_8 =>
        mm_wI h_8 p_5 x3 (mm_mn v_7 v_9) fun h_10 =>
        mm_run E cl mm_m198 n 215 [some (.ref a0), some (.int x1), some (.int x2), some (.int x3), some (.int x4), some (.int (x5 + 1))] [] h_10)))))) := rfl
-- Mod.withOneAt
set_option maxRecDepth 20000 in
set_option maxHeartbeats 4000000 in
theorem mm_e199_0 (E : mm_E) (cl : mm_F) (n : Nat) (a0 : Nat) (x1 : Int32) (x2 : Int32) (x3 : Int32) (h : mm_H) :
  mm_run E cl mm_m199 (n + 1) 0 [some (.ref a0), some (.int x1), some (.int x2), some (.int x3), none, none] [] h =
  mm_gR h a0 9 8 fun p_1 =>
  mm_rI E h p_1 ((120 * x2) + x3) fun v_2 =>
  mm_run E cl mm_m199 n 16 [some (.ref a0), some (.int x1), some (.int x2), some (.int x3), some (.int v_2), some (.int 0)] [] h := rfl
-- Mod.withOneAt
set_option maxRecDepth 20000 in
set_option maxHeartbeats 4000000 in
theorem mm_e199_16 (E : mm_E) (cl : mm_F) (n : Nat) (a0 : Nat) (x1 : Int32) (x2 : Int32) (x3 : Int32) (x4 : Int32) (x5 : Int32) (h : mm_H) :
  mm_run E cl mm_m199 (n + 1) 16 [some (.ref a0), some (.int x1), some (.int x2), some (.int x3), some (.int x4), some (.int x5)] [] h =
  mm_cI [] (cl 150 [.ref a0] h) fun v_2 h_1 =>
  (mm_br (v_2 ≤ x5) (
  some (.inl (some (.int x4)), h_1)) (
  (mm_br (x5 = x2) (
    mm_run E cl mm_m199 n 16 [some (.ref a0), some (.int x1), some (.int x2), some (.int x3), some (.int x4), some (.int (x5 + 1))] [] h_1) (
    mm_cI [] (cl 159 [.int x1, .int x5] h_1) fun v_4 h_3 =>
      (mm_br (v_4 = 0) (
      mm_run E cl mm_m199 n 16 [some (.ref a0), some (.int x1), some (.int x2), some (.int x3), some (.int x4), some (.int (x5 + 1))] [] h_3) (
      mm_gR h_3 a0 9 9 fun p_5 =>
        mm_rI E h_3 p_5 ((120 * x5) + x3) fun v_6 =>
        mm_cI [] (cl 191 [.int x4, .int v_6] h_3) fun v_8 h_7 =>
        mm_run E cl mm_m199 n 16 [some (.ref a0), some (.int x1), some (.int x2), some (.int x3), some (.int v_8), some (.int (x5 + 1))] [] h_7)))))) := rfl
-- Mod.byOwnTimes
set_option maxRecDepth 20000 in
set_option maxHeartbeats 4000000 in
theorem mm_e200_0 (E : mm_E) (cl : mm_F) (n : Nat) (a0 : Nat) (x1 : Int32) (h : mm_H) :
  mm_run E cl mm_m200 (n + 1) 0 [some (.ref a0), some (.int x1), none, none, none, none] [] h =
  mm_run E cl mm_m200 n 2 [some (.ref a0), some (.int x1), some (.int 0), none, none, none] [] h := rfl
-- Mod.byOwnTimes
set_option maxRecDepth 20000 in
set_option maxHeartbeats 4000000 in
theorem mm_e200_2 (E : mm_E) (cl : mm_F) (n : Nat) (a0 : Nat) (x1 : Int32) (x2 : Int32) (o3 : Option Value) (o4 : Option Value) (o5 : Option Value) (h : mm_H) :
  mm_run E cl mm_m200 (n + 1) 2 [some (.ref a0), some (.int x1), some (.int x2), o3, o4, o5] [] h =
  mm_gI h a0 9 15 fun v_1 =>
  (mm_br (v_1 < x2) (
  some (.inl none, h)) (
  mm_run E cl mm_m200 n 16 [some (.ref a0), some (.int x1), some (.int x2), some (.int 1000000000), some (.int 0), o5] [] h)) := rfl
-- Mod.byOwnTimes
set_option maxRecDepth 20000 in
set_option maxHeartbeats 4000000 in
theorem mm_e200_16 (E : mm_E) (cl : mm_F) (n : Nat) (a0 : Nat) (x1 : Int32) (x2 : Int32) (x3 : Int32) (x4 : Int32) (o5 : Option Value) (h : mm_H) :
  mm_run E cl mm_m200 (n + 1) 16 [some (.ref a0), some (.int x1), some (.int x2), some (.int x3), some (.int x4), o5] [] h =
  mm_gI h a0 9 15 fun v_1 =>
  (mm_br (v_1 < x4) (
  mm_gR h a0 9 8 fun p_2 =>
    mm_wI h p_2 ((120 * x1) + x2) x3 fun h_3 =>
    mm_run E cl mm_m200 n 2 [some (.ref a0), some (.int x1), some (.int (x2 + 1)), some (.int x3), some (.int x4), o5] [] h_3) (
  mm_gR h a0 9 12 fun p_4 =>
    mm_rI E h p_4 x2 fun v_5 =>
    (mm_br (1000000000 ≤ v_5) (
    mm_gR h a0 9 8 fun p_6 =>
      mm_wI h p_6 ((120 * x1) + x2) x3 fun h_7 =>
      mm_run E cl mm_m200 n 2 [some (.ref a0), some (.int x1), some (.int (x2 + 1)), some (.int x3), some (.int x4), o5] [] h_7) (
    mm_cI [] (cl 152 [.ref a0, .int x1, .int 0] h) fun v_9 h_8 =>
      (mm_br (((x4 + v_9) - x2) < 0) (
      mm_run E cl mm_m200 n 16 [some (.ref a0), some (.int x1), some (.int x2), some (.int x3), some (.int (x4 + 1)), some (.int ((x4 + v_9) - x2))] [] h_8) (
      mm_gR h_8 a0 9 10 fun p_10 =>
        mm_rI E h_8 p_10 x4 fun v_11 =>
        (mm_br (v_11 < 1000000000) (
        mm_gR h_8 a0 9 10 fun p_12 =>
          mm_rI E h_8 p_12 x4 fun v_13 =>
          mm_gR h_8 a0 9 12 fun p_14 =>
          mm_rI E h_8 p_14 x2 fun v_15 =>
          mm_cI [] (cl 191 [.int v_13, .int v_15] h_8) fun v_17 h_16 =>
          mm_cI [] (cl 192 [.ref a0, .int x1, .int ((x4 + v_9) - x2)] h_16) fun v_19 h_18 =>
          mm_cI [] (cl 191 [.int v_17, .int v_19] h_18) fun v_21 h_20 =>
          mm_run E cl mm_m200 n 16 [some (.ref a0), some (.int x1), some (.int x2), some (.int (mm_mn x3 v_21)), some (.int (x4 + 1)), some (.int ((x4 + v_9) - x2))] [] h_20) (
        mm_run E cl mm_m200 n 16 [some (.ref a0), some (.int x1), some (.int x2), some (.int x3), some (.int (x4 + 1)), some (.int ((x4 + v_9) - x2))] [] h_8)))))))) := rfl
-- Mod.bySupplier
set_option maxRecDepth 20000 in
set_option maxHeartbeats 4000000 in
theorem mm_e201_0 (E : mm_E) (cl : mm_F) (n : Nat) (a0 : Nat) (x1 : Int32) (h : mm_H) :
  mm_run E cl mm_m201 (n + 1) 0 [some (.ref a0), some (.int x1), none, none, none] [] h =
  mm_run E cl mm_m201 n 2 [some (.ref a0), some (.int x1), some (.int 0), none, none] [] h := rfl
-- Mod.bySupplier
set_option maxRecDepth 20000 in
set_option maxHeartbeats 4000000 in
theorem mm_e201_2 (E : mm_E) (cl : mm_F) (n : Nat) (a0 : Nat) (x1 : Int32) (x2 : Int32) (o3 : Option Value) (o4 : Option Value) (h : mm_H) :
  mm_run E cl mm_m201 (n + 1) 2 [some (.ref a0), some (.int x1), some (.int x2), o3, o4] [] h =
  mm_gI h a0 9 15 fun v_1 =>
  (mm_br (v_1 < x2) (
  mm_run E cl mm_m201 n 104 [some (.ref a0), some (.int x1), some (.int 0), o3, o4] [] h) (
  mm_gR h a0 9 13 fun p_2 =>
    mm_wI h p_2 x2 1000000000 fun h_3 =>
    mm_run E cl mm_m201 n 20 [some (.ref a0), some (.int x1), some (.int x2), some (.int 0), o4] [] h_3)) := rfl
-- Mod.bySupplier
set_option maxRecDepth 20000 in
set_option maxHeartbeats 4000000 in
theorem mm_e201_20 (E : mm_E) (cl : mm_F) (n : Nat) (a0 : Nat) (x1 : Int32) (x2 : Int32) (x3 : Int32) (o4 : Option Value) (h : mm_H) :
  mm_run E cl mm_m201 (n + 1) 20 [some (.ref a0), some (.int x1), some (.int x2), some (.int x3), o4] [] h =
  mm_gI h a0 9 15 fun v_1 =>
  (mm_br (v_1 < x3) (
  mm_run E cl mm_m201 n 2 [some (.ref a0), some (.int x1), some (.int (x2 + 1)), some (.int x3), o4] [] h) (
  mm_cI [] (cl 152 [.ref a0, .int x1, .int 0] h) fun v_3 h_2 =>
    (mm_br (((x2 + v_3) - x3) < 0) (
    mm_run E cl mm_m201 n 20 [some (.ref a0), some (.int x1), some (.int x2), some (.int (x3 + 1)), some (.int ((x2 + v_3) - x3))] [] h_2) (
    mm_gR h_2 a0 9 12 fun p_4 =>
      mm_rI E h_2 p_4 x3 fun v_5 =>
      (mm_br (v_5 < 1000000000) (
      mm_gR h_2 a0 9 13 fun p_6 =>
        mm_gR h_2 a0 9 13 fun p_7 =>
        mm_rI E h_2 p_7 x2 fun v_8 =>
        mm_gR h_2 a0 9 12 fun p_9 =>
        mm_rI E h_2 p_9 x3 fun v_10 =>
        mm_cI [] (cl 192 [.ref a0, .int x1, .int ((x2 + v_3) - x3)] h_2) fun v_12 h_11 =>
        mm_cI [] (cl 191 [.int v_10, .int v_12] h_11) fun v_14 h_13 =>
        mm_wI h_13 p_6 x2 (mm_mn v_8 v_14) fun h_15 =>
        mm_run E cl mm_m201 n 20 [some (.ref a0), some (.int x1), some (.int x2), some (.int (x3 + 1)), some (.int ((x2 + v_3) - x3))] [] h_15) (
      mm_run E cl mm_m201 n 20 [some (.ref a0), some (.int x1), some (.int x2), some (.int (x3 + 1)), some (.int ((x2 + v_3) - x3))] [] h_2)))))) := rfl
-- Mod.bySupplier
set_option maxRecDepth 20000 in
set_option maxHeartbeats 4000000 in
theorem mm_e201_104 (E : mm_E) (cl : mm_F) (n : Nat) (a0 : Nat) (x1 : Int32) (x2 : Int32) (o3 : Option Value) (o4 : Option Value) (h : mm_H) :
  mm_run E cl mm_m201 (n + 1) 104 [some (.ref a0), some (.int x1), some (.int x2), o3, o4] [] h =
  mm_gI h a0 9 15 fun v_1 =>
  (mm_br (v_1 < x2) (
  some (.inl none, h)) (
  mm_gR h a0 9 11 fun p_2 =>
    mm_rI E h p_2 x2 fun v_3 =>
    mm_gR h a0 9 13 fun p_4 =>
    mm_rI E h p_4 x2 fun v_5 =>
    mm_cI [] (cl 191 [.int v_3, .int v_5] h) fun v_7 h_6 =>
    mm_run E cl mm_m201 n 133 [some (.ref a0), some (.int x1), some (.int x2), some (.int v_7), some (.int (x2 + 1))] [] h_6)) := rfl
-- Mod.bySupplier
set_option maxRecDepth 20000 in
set_option maxHeartbeats 4000000 in
theorem mm_e201_133 (E : mm_E) (cl : mm_F) (n : Nat) (a0 : Nat) (x1 : Int32) (x2 : Int32) (x3 : Int32) (x4 : Int32) (h : mm_H) :
  mm_run E cl mm_m201 (n + 1) 133 [some (.ref a0), some (.int x1), some (.int x2), some (.int x3), some (.int x4)] [] h =
  mm_gI h a0 9 15 fun v_1 =>
  (mm_br (v_1 < x4) (
  mm_gR h a0 9 8 fun p_2 =>
    mm_cI [] (cl 152 [.ref a0, .int x1, .int 2] h) fun v_4 h_3 =>
    (mm_br (v_4 ≤ x2) (
    mm_wI h_3 p_2 ((120 * x1) + x2) x3 fun h_5 =>
      mm_run E cl mm_m201 n 104 [some (.ref a0), some (.int x1), some (.int (x2 + 1)), some (.int x3), some (.int x4)] [] h_5) (
    mm_cI [] (cl 152 [.ref a0, .int x1, .int 2] h_3) fun v_7 h_6 =>
      mm_cI [] (cl 202 [.ref a0, .int v_7] h_6) fun v_9 h_8 =>
      mm_wI h_8 p_2 ((120 * x1) + x2) v_9 fun h_10 =>
      mm_run E cl mm_m201 n 104 [some (.ref a0), some (.int x1), some (.int (x2 + 1)), some (.int x3), some (.int x4)] [] h_10))) (
  mm_gR h a0 9 10 fun p_11 =>
    mm_rI E h p_11 x4 fun v_12 =>
    mm_gR h a0 9 13 fun p_13 =>
    mm_rI E h p_13 x4 fun v_14 =>
    mm_cI [] (cl 191 [.int v_12, .int v_14] h) fun v_16 h_15 =>
    mm_run E cl mm_m201 n 133 [some (.ref a0), some (.int x1), some (.int x2), some (.int (mm_mn x3 v_16)), some (.int (x4 + 1))] [] h_15)) := rfl
-- Mod.leastFrom
set_option maxRecDepth 20000 in
set_option maxHeartbeats 4000000 in
theorem mm_e202_0 (E : mm_E) (cl : mm_F) (n : Nat) (a0 : Nat) (x1 : Int32) (h : mm_H) :
  mm_run E cl mm_m202 (n + 1) 0 [some (.ref a0), some (.int x1), none, none] [] h =
  mm_run E cl mm_m202 n 5 [some (.ref a0), some (.int x1), some (.int 1000000000), some (.int x1)] [] h := rfl
-- Mod.leastFrom
set_option maxRecDepth 20000 in
set_option maxHeartbeats 4000000 in
theorem mm_e202_5 (E : mm_E) (cl : mm_F) (n : Nat) (a0 : Nat) (x1 : Int32) (x2 : Int32) (x3 : Int32) (h : mm_H) :
  mm_run E cl mm_m202 (n + 1) 5 [some (.ref a0), some (.int x1), some (.int x2), some (.int x3)] [] h =
  mm_gI h a0 9 15 fun v_1 =>
  (mm_br (v_1 < x3) (
  some (.inl (some (.int x2)), h)) (
  mm_gR h a0 9 10 fun p_2 =>
    mm_rI E h p_2 x3 fun v_3 =>
    mm_gR h a0 9 13 fun p_4 =>
    mm_rI E h p_4 x3 fun v_5 =>
    mm_cI [] (cl 191 [.int v_3, .int v_5] h) fun v_7 h_6 =>
    mm_run E cl mm_m202 n 5 [some (.ref a0), some (.int x1), some (.int (mm_mn x2 v_7)), some (.int (x3 + 1))] [] h_6)) := rfl
-- Mod.layBest
set_option maxRecDepth 20000 in
set_option maxHeartbeats 4000000 in
theorem mm_e203_0 (E : mm_E) (cl : mm_F) (n : Nat) (a0 : Nat) (h : mm_H) :
  mm_run E cl mm_m203 (n + 1) 0 [some (.ref a0), none, none, none, none] [] h =
  mm_cI [] (cl 195 [.ref a0] h) fun v_2 h_1 =>
  mm_run E cl mm_m203 n 7 [some (.ref a0), some (.int v_2), some (.int 0), none, none] [] h_1 := rfl
-- Mod.layBest
set_option maxRecDepth 20000 in
set_option maxHeartbeats 4000000 in
theorem mm_e203_7 (E : mm_E) (cl : mm_F) (n : Nat) (a0 : Nat) (x1 : Int32) (x2 : Int32) (o3 : Option Value) (o4 : Option Value) (h : mm_H) :
  mm_run E cl mm_m203 (n + 1) 7 [some (.ref a0), some (.int x1), some (.int x2), o3, o4] [] h =
  mm_cI [] (cl 150 [.ref a0] h) fun v_2 h_1 =>
  (mm_br (v_2 ≤ x2) (
  mm_run E cl mm_m203 n 105 [some (.ref a0), some (.int x1), some (.int 0), o3, o4] [] h_1) (
  mm_gR h_1 a0 9 16 fun p_3 =>
    mm_gR h_1 a0 9 1 fun p_4 =>
    mm_rI E h_1 p_4 ((3 + (7 * x2)) + 6) fun v_5 =>
    mm_wI h_1 p_3 x2 v_5 fun h_6 =>
    mm_gR h_6 a0 9 16 fun p_7 =>
    mm_rI E h_6 p_7 x2 fun v_8 =>
    (mm_br (v_8 = (-1)) (
    mm_gR h_6 a0 9 1 fun p_13 =>
      mm_wI h_6 p_13 ((3 + (7 * x2)) + 6) 0 fun h_14 =>
      mm_run E cl mm_m203 n 67 [some (.ref a0), some (.int x1), some (.int x2), some (.int ((3 + (7 * x2)) + 6)), some (.int 0)] [] h_14) (
    mm_gR h_6 a0 9 16 fun p_9 =>
      mm_rI E h_6 p_9 x2 fun v_10 =>
      mm_gR h_6 a0 9 1 fun p_11 =>
      mm_wI h_6 p_11 ((3 + (7 * x2)) + 6) v_10 fun h_12 =>
      mm_run E cl mm_m203 n 67 [some (.ref a0), some (.int x1), some (.int x2), some (.int ((3 + (7 * x2)) + 6)), some (.int v_10)] [] h_12)))) := rfl
-- Mod.layBest
set_option maxRecDepth 20000 in
set_option maxHeartbeats 4000000 in
theorem mm_e203_67 (E : mm_E) (cl : mm_F) (n : Nat) (a0 : Nat) (x1 : Int32) (x2 : Int32) (x3 : Int32) (x4 : Int32) (h : mm_H) :
  mm_run E cl mm_m203 (n + 1) 67 [some (.ref a0), some (.int x1), some (.int x2), some (.int x3), some (.int x4)] [] h =
  mm_cI [] (cl 196 [.ref a0] h) fun v_2 h_1 =>
  (mm_br (v_2 = x1) (
  mm_gR h_1 a0 9 5 fun p_3 =>
    mm_wI h_1 p_3 x2 x4 fun h_4 =>
    mm_run E cl mm_m203 n 7 [some (.ref a0), some (.int x1), some (.int (x2 + 1)), some (.int x3), some (.int x4)] [] h_4) (
  mm_gR h_1 a0 9 1 fun p_5 =>
    mm_wI h_1 p_5 x3 (x4 + 1) fun h_6 =>
    mm_run E cl mm_m203 n 67 [some (.ref a0), some (.int x1), some (.int x2), some (.int x3), some (.int (x4 + 1))] [] h_6)) := rfl
-- Mod.layBest
set_option maxRecDepth 20000 in
set_option maxHeartbeats 4000000 in
theorem mm_e203_105 (E : mm_E) (cl : mm_F) (n : Nat) (a0 : Nat) (x1 : Int32) (x2 : Int32) (o3 : Option Value) (o4 : Option Value) (h : mm_H) :
  mm_run E cl mm_m203 (n + 1) 105 [some (.ref a0), some (.int x1), some (.int x2), o3, o4] [] h =
  mm_cI [] (cl 150 [.ref a0] h) fun v_2 h_1 =>
  (mm_br (v_2 ≤ x2) (
  some (.inl none, h_1)) (
  mm_gR h_1 a0 9 1 fun p_3 =>
    mm_gR h_1 a0 9 16 fun p_4 =>
    mm_rI E h_1 p_4 x2 fun v_5 =>
    mm_wI h_1 p_3 ((3 + (7 * x2)) + 6) v_5 fun h_6 =>
    mm_run E cl mm_m203 n 105 [some (.ref a0), some (.int x1), some (.int (x2 + 1)), o3, o4] [] h_6)) := rfl
-- Mod.least
set_option maxRecDepth 20000 in
set_option maxHeartbeats 4000000 in
theorem mm_e204_0 (E : mm_E) (cl : mm_F) (n : Nat) (a0 : Nat) (h : mm_H) :
  mm_run E cl mm_m204 (n + 1) 0 [some (.ref a0)] [] h =
  mm_pF h a0 9 0 (.int 0) fun h_1 =>
  mm_cI [] (cl 195 [.ref a0] h_1) fun v_3 h_2 =>
  some (.inl (some (.int v_3)), h_2) := rfl
-- Mod.priceWith
set_option maxRecDepth 20000 in
set_option maxHeartbeats 4000000 in
theorem mm_e205_0 (E : mm_E) (cl : mm_F) (n : Nat) (a0 : Nat) (x1 : Int32) (x2 : Int32) (x3 : Int32) (h : mm_H) :
  mm_run E cl mm_m205 (n + 1) 0 [some (.ref a0), some (.int x1), some (.int x2), some (.int x3), none, none, none] [] h =
  mm_gR h a0 9 1 fun p_1 =>
  mm_rI E h p_1 ((3 + (7 * x1)) + x2) fun v_2 =>
  mm_gR h a0 9 1 fun p_3 =>
  mm_wI h p_3 ((3 + (7 * x1)) + x2) x3 fun h_4 =>
  mm_cI [] (cl 195 [.ref a0] h_4) fun v_6 h_5 =>
  mm_gR h_5 a0 9 1 fun p_7 =>
  mm_wI h_5 p_7 ((3 + (7 * x1)) + x2) v_2 fun h_8 =>
  some (.inl (some (.int v_6)), h_8) := rfl
-- Mod.lessThan
set_option maxRecDepth 20000 in
set_option maxHeartbeats 4000000 in
theorem mm_e206_0 (E : mm_E) (cl : mm_F) (n : Nat) (a0 : Nat) (x1 : Int32) (x2 : Int32) (h : mm_H) :
  mm_run E cl mm_m206 (n + 1) 0 [some (.ref a0), some (.int x1), some (.int x2)] [] h =
  (mm_br (x1 = (-1)) (
  some (.inl (some (.int (-1000000))), h)) (
  (mm_br (x2 = (-1)) (
    some (.inl (some (.int (-1000000))), h)) (
    some (.inl (some (.int (x1 - x2))), h))))) := rfl
-- Mod.worth
set_option maxRecDepth 20000 in
set_option maxHeartbeats 4000000 in
theorem mm_e207_0 (E : mm_E) (cl : mm_F) (n : Nat) (a0 : Nat) (x1 : Int32) (x2 : Int32) (h : mm_H) :
  mm_run E cl mm_m207 (n + 1) 0 [some (.ref a0), some (.int x1), some (.int x2), none, none] [] h =
  mm_pF h a0 9 0 (.int 0) fun h_1 =>
  mm_cI [] (cl 151 [.ref a0, .int x1] h_1) fun v_3 h_2 =>
  (mm_br (v_3 = 0) (
  mm_cI [] (cl 146 [.ref a0, .int 1] h_2) fun v_5 h_4 =>
    some (.inl (some (.int v_5)), h_4)) (
  mm_cI [] (cl 147 [.int x2, .int 0, .int 2] h_2) fun v_7 h_6 =>
    (mm_br (v_7 = 0) (
    mm_cI [] (cl 146 [.ref a0, .int 1] h_6) fun v_9 h_8 =>
      some (.inl (some (.int v_9)), h_8)) (
    (mm_br (x2 = 0) (
      mm_run E cl mm_m207 n 47 [some (.ref a0), some (.int x1), some (.int x2), none, none] [.int 0] h_6) (
      (mm_br (x2 = 1) (
        mm_run E cl mm_m207 n 47 [some (.ref a0), some (.int x1), some (.int x2), none, none] [.int 5] h_6) (
        mm_run E cl mm_m207 n 47 [some (.ref a0), some (.int x1), some (.int x2), none, none] [.int 6] h_6)))))))) := rfl
-- Mod.worth
set_option maxRecDepth 20000 in
set_option maxHeartbeats 4000000 in
theorem mm_e207_47 (E : mm_E) (cl : mm_F) (n : Nat) (a0 : Nat) (x1 : Int32) (x2 : Int32) (o3 : Option Value) (o4 : Option Value) (s0 : Int32) (h : mm_H) :
  mm_run E cl mm_m207 (n + 1) 47 [some (.ref a0), some (.int x1), some (.int x2), o3, o4] [.int s0] h =
  mm_cI [] (cl 152 [.ref a0, .int x1, .int s0] h) fun v_2 h_1 =>
  (mm_br (x2 = 0) (
  (mm_br (v_2 = 0) (
    some (.inl (some (.int 0)), h_1)) (
    mm_run E cl mm_m207 n 76 [some (.ref a0), some (.int x1), some (.int x2), some (.int s0), some (.int v_2)] [] h_1))) (
  (mm_br (v_2 = (-1)) (
    some (.inl (some (.int 0)), h_1)) (
    mm_run E cl mm_m207 n 76 [some (.ref a0), some (.int x1), some (.int x2), some (.int s0), some (.int v_2)] [] h_1)))) := rfl
-- Mod.worth
set_option maxRecDepth 20000 in
set_option maxHeartbeats 4000000 in
theorem mm_e207_76 (E : mm_E) (cl : mm_F) (n : Nat) (a0 : Nat) (x1 : Int32) (x2 : Int32) (x3 : Int32) (x4 : Int32) (h : mm_H) :
  mm_run E cl mm_m207 (n + 1) 76 [some (.ref a0), some (.int x1), some (.int x2), some (.int x3), some (.int x4)] [] h =
  mm_cI [] (cl 195 [.ref a0] h) fun v_2 h_1 =>
  (mm_br (x2 = 0) (
  mm_cI [] (cl 205 [.ref a0, .int x1, .int x3, .int (x4 - 1)] h_1) fun v_12 h_11 =>
    mm_cI [] (cl 206 [.ref a0, .int v_2, .int v_12] h_11) fun v_14 h_13 =>
    some (.inl (some (.int v_14)), h_13)) (
  (mm_br (x2 = 1) (
    mm_cI [] (cl 205 [.ref a0, .int x1, .int x3, .int (x4 + 1)] h_1) fun v_8 h_7 =>
      mm_cI [] (cl 206 [.ref a0, .int v_2, .int v_8] h_7) fun v_10 h_9 =>
      some (.inl (some (.int v_10)), h_9)) (
    mm_cI [] (cl 205 [.ref a0, .int x1, .int x3, .int (-1)] h_1) fun v_4 h_3 =>
      mm_cI [] (cl 206 [.ref a0, .int v_2, .int v_4] h_3) fun v_6 h_5 =>
      some (.inl (some (.int v_6)), h_5))))) := rfl
-- Mod.evenPrice
set_option maxRecDepth 20000 in
set_option maxHeartbeats 4000000 in
theorem mm_e208_0 (E : mm_E) (cl : mm_F) (n : Nat) (a0 : Nat) (x1 : Int32) (h : mm_H) :
  mm_run E cl mm_m208 (n + 1) 0 [some (.ref a0), some (.int x1), none, none] [] h =
  mm_run E cl mm_m208 n 2 [some (.ref a0), some (.int x1), some (.int 0), none] [] h := rfl
-- Mod.evenPrice
set_option maxRecDepth 20000 in
set_option maxHeartbeats 4000000 in
theorem mm_e208_2 (E : mm_E) (cl : mm_F) (n : Nat) (a0 : Nat) (x1 : Int32) (x2 : Int32) (o3 : Option Value) (h : mm_H) :
  mm_run E cl mm_m208 (n + 1) 2 [some (.ref a0), some (.int x1), some (.int x2), o3] [] h =
  mm_cI [] (cl 150 [.ref a0] h) fun v_2 h_1 =>
  (mm_br (v_2 ≤ x2) (
  mm_cI [] (cl 195 [.ref a0] h_1) fun v_4 h_3 =>
    mm_run E cl mm_m208 n 63 [some (.ref a0), some (.int x1), some (.int v_4), some (.int 0)] [] h_3) (
  mm_gR h_1 a0 9 17 fun p_5 =>
    mm_gR h_1 a0 9 1 fun p_6 =>
    mm_rI E h_1 p_6 ((3 + (7 * x2)) + 5) fun v_7 =>
    mm_wI h_1 p_5 x2 v_7 fun h_8 =>
    mm_gR h_8 a0 9 1 fun p_9 =>
    mm_cI [] (cl 158 [.ref a0, .int x2] h_8) fun v_11 h_10 =>
    (mm_br (v_11 = 0) (
    mm_wI h_10 p_9 ((3 + (7 * x2)) + 5) x1 fun h_13 =>
      mm_run E cl mm_m208 n 2 [some (.ref a0), some (.int x1), some (.int (x2 + 1)), some (.int ((3 + (7 * x2)) + 5))] [] h_13) (
    mm_wI h_10 p_9 ((3 + (7 * x2)) + 5) (-1) fun h_12 =>
      mm_run E cl mm_m208 n 2 [some (.ref a0), some (.int x1), some (.int (x2 + 1)), some (.int ((3 + (7 * x2)) + 5))] [] h_12)))) := rfl
-- Mod.evenPrice
set_option maxRecDepth 20000 in
set_option maxHeartbeats 4000000 in
theorem mm_e208_63 (E : mm_E) (cl : mm_F) (n : Nat) (a0 : Nat) (x1 : Int32) (x2 : Int32) (x3 : Int32) (h : mm_H) :
  mm_run E cl mm_m208 (n + 1) 63 [some (.ref a0), some (.int x1), some (.int x2), some (.int x3)] [] h =
  mm_cI [] (cl 150 [.ref a0] h) fun v_2 h_1 =>
  (mm_br (v_2 ≤ x3) (
  some (.inl (some (.int x2)), h_1)) (
  mm_gR h_1 a0 9 1 fun p_3 =>
    mm_gR h_1 a0 9 17 fun p_4 =>
    mm_rI E h_1 p_4 x3 fun v_5 =>
    mm_wI h_1 p_3 ((3 + (7 * x3)) + 5) v_5 fun h_6 =>
    mm_run E cl mm_m208 n 63 [some (.ref a0), some (.int x1), some (.int x2), some (.int (x3 + 1))] [] h_6)) := rfl
-- Mod.even
set_option maxRecDepth 20000 in
set_option maxHeartbeats 4000000 in
theorem mm_e209_0 (E : mm_E) (cl : mm_F) (n : Nat) (a0 : Nat) (x1 : Int32) (h : mm_H) :
  mm_run E cl mm_m209 (n + 1) 0 [some (.ref a0), some (.int x1)] [] h =
  mm_pF h a0 9 0 (.int 0) fun h_1 =>
  mm_cI [] (cl 147 [.int x1, .int 0, .int 20] h_1) fun v_3 h_2 =>
  (mm_br (v_3 = 0) (
  mm_cI [] (cl 146 [.ref a0, .int 1] h_2) fun v_5 h_4 =>
    some (.inl (some (.int v_5)), h_4)) (
  mm_cI [] (cl 208 [.ref a0, .int x1] h_2) fun v_7 h_6 =>
    some (.inl (some (.int v_7)), h_6))) := rfl
-- Mod.budget
set_option maxRecDepth 20000 in
set_option maxHeartbeats 4000000 in
theorem mm_e210_0 (E : mm_E) (cl : mm_F) (n : Nat) (a0 : Nat) (x1 : Int32) (h : mm_H) :
  mm_run E cl mm_m210 (n + 1) 0 [some (.ref a0), some (.int x1), none, none] [] h =
  mm_pF h a0 9 0 (.int 0) fun h_1 =>
  mm_run E cl mm_m210 n 7 [some (.ref a0), some (.int x1), some (.int 0), none] [] h_1 := rfl
-- Mod.budget
set_option maxRecDepth 20000 in
set_option maxHeartbeats 4000000 in
theorem mm_e210_7 (E : mm_E) (cl : mm_F) (n : Nat) (a0 : Nat) (x1 : Int32) (x2 : Int32) (o3 : Option Value) (h : mm_H) :
  mm_run E cl mm_m210 (n + 1) 7 [some (.ref a0), some (.int x1), some (.int x2), o3] [] h =
  (mm_br (20 < x2) (
  some (.inl (some (.int (-1))), h)) (
  mm_cI [] (cl 208 [.ref a0, .int x2] h) fun v_2 h_1 =>
    (mm_br (v_2 = (-1)) (
    mm_run E cl mm_m210 n 7 [some (.ref a0), some (.int x1), some (.int (x2 + 1)), some (.int v_2)] [] h_1) (
    (mm_br (x1 < v_2) (
      mm_run E cl mm_m210 n 7 [some (.ref a0), some (.int x1), some (.int (x2 + 1)), some (.int v_2)] [] h_1) (
      some (.inl (some (.int x2)), h_1))))))) := rfl
-- Mod.pinned
set_option maxRecDepth 20000 in
set_option maxHeartbeats 4000000 in
theorem mm_e211_0 (E : mm_E) (cl : mm_F) (n : Nat) (a0 : Nat) (x1 : Int32) (x2 : Int32) (h : mm_H) :
  mm_run E cl mm_m211 (n + 1) 0 [some (.ref a0), some (.int x1), some (.int x2)] [] h =
  mm_cI [] (cl 151 [.ref a0, .int x1] h) fun v_2 h_1 =>
  (mm_br (v_2 = 0) (
  mm_pF h_1 a0 9 0 (.int 1) fun h_13 =>
    mm_gI h_13 a0 9 0 fun v_14 =>
    (mm_br (v_14 ≤ 0) (
    mm_cI [] (cl 205 [.ref a0, .int x1, .int 6, .int x2] h_13) fun v_16 h_15 =>
      some (.inl (some (.int v_16)), h_15)) (
    some (.inl (some (.int 0)), h_13)))) (
  mm_cI [] (cl 147 [.int x2, .int 0, .int 119] h_1) fun v_4 h_3 =>
    (mm_br (v_4 = 0) (
    mm_pF h_3 a0 9 0 (.int 2) fun h_9 =>
      mm_gI h_9 a0 9 0 fun v_10 =>
      (mm_br (v_10 ≤ 0) (
      mm_cI [] (cl 205 [.ref a0, .int x1, .int 6, .int x2] h_9) fun v_12 h_11 =>
        some (.inl (some (.int v_12)), h_11)) (
      some (.inl (some (.int 0)), h_9)))) (
    mm_pF h_3 a0 9 0 (.int 0) fun h_5 =>
      mm_gI h_5 a0 9 0 fun v_6 =>
      (mm_br (v_6 ≤ 0) (
      mm_cI [] (cl 205 [.ref a0, .int x1, .int 6, .int x2] h_5) fun v_8 h_7 =>
        some (.inl (some (.int v_8)), h_7)) (
      some (.inl (some (.int 0)), h_5))))))) := rfl
-- Mod.frontierAt
set_option maxRecDepth 20000 in
set_option maxHeartbeats 4000000 in
theorem mm_e212_0 (E : mm_E) (cl : mm_F) (n : Nat) (a0 : Nat) (x1 : Int32) (h : mm_H) :
  mm_run E cl mm_m212 (n + 1) 0 [some (.ref a0), some (.int x1), none, none, none, none] [] h =
  mm_run E cl mm_m212 n 8 [some (.ref a0), some (.int x1), some (.int 0), some (.int 1000000000), some (.int 0), none] [] h := rfl
-- Mod.frontierAt
set_option maxRecDepth 20000 in
set_option maxHeartbeats 4000000 in
theorem mm_e212_8 (E : mm_E) (cl : mm_F) (n : Nat) (a0 : Nat) (x1 : Int32) (x2 : Int32) (x3 : Int32) (x4 : Int32) (o5 : Option Value) (h : mm_H) :
  mm_run E cl mm_m212 (n + 1) 8 [some (.ref a0), some (.int x1), some (.int x2), some (.int x3), some (.int x4), o5] [] h =
  (mm_br (20 < x4) (
  (mm_br (x1 = (-1)) (
    some (.inl (some (.int x2)), h)) (
    some (.inl (some (.int (-2))), h)))) (
  mm_cI [] (cl 208 [.ref a0, .int x4] h) fun v_2 h_1 =>
    (mm_br (v_2 = (-1)) (
    mm_run E cl mm_m212 n 8 [some (.ref a0), some (.int x1), some (.int x2), some (.int x3), some (.int (x4 + 1)), some (.int v_2)] [] h_1) (
    (mm_br (v_2 < x3) (
      (mm_br (x2 = x1) (
        some (.inl (some (.int x4)), h_1)) (
        mm_run E cl mm_m212 n 8 [some (.ref a0), some (.int x1), some (.int (x2 + 1)), some (.int v_2), some (.int (x4 + 1)), some (.int v_2)] [] h_1))) (
      mm_run E cl mm_m212 n 8 [some (.ref a0), some (.int x1), some (.int x2), some (.int x3), some (.int (x4 + 1)), some (.int v_2)] [] h_1)))))) := rfl
-- Mod.frontier
set_option maxRecDepth 20000 in
set_option maxHeartbeats 4000000 in
theorem mm_e213_0 (E : mm_E) (cl : mm_F) (n : Nat) (a0 : Nat) (x1 : Int32) (h : mm_H) :
  mm_run E cl mm_m213 (n + 1) 0 [some (.ref a0), some (.int x1), none] [] h =
  mm_pF h a0 9 0 (.int 0) fun h_1 =>
  (mm_br ((-1) ≤ x1) (
  mm_cI [] (cl 212 [.ref a0, .int x1] h_1) fun v_3 h_2 =>
    (mm_br (v_3 = (-2)) (
    mm_cI [] (cl 146 [.ref a0, .int 1] h_2) fun v_5 h_4 =>
      some (.inl (some (.int v_5)), h_4)) (
    some (.inl (some (.int v_3)), h_2)))) (
  (mm_br (((-2) : Int32) = (-2)) (
    mm_cI [] (cl 146 [.ref a0, .int 1] h_1) fun v_7 h_6 =>
      some (.inl (some (.int v_7)), h_6)) (
    some (.inl (some (.int (-2))), h_1))))) := rfl
-- Mod.demand
set_option maxRecDepth 20000 in
set_option maxHeartbeats 4000000 in
theorem mm_e214_0 (E : mm_E) (cl : mm_F) (n : Nat) (a0 : Nat) (x1 : Int32) (x2 : Int32) (x3 : Int32) (h : mm_H) :
  mm_run E cl mm_m214 (n + 1) 0 [some (.ref a0), some (.int x1), some (.int x2), some (.int x3), none] [] h =
  mm_cI [] (cl 151 [.ref a0, .int x1] h) fun v_2 h_1 =>
  (mm_br (v_2 = 0) (
  mm_run E cl mm_m214 n 39 [some (.ref a0), some (.int x1), some (.int x2), some (.int x3), none] [.int 1, .ref a0] h_1) (
  mm_cI [] (cl 147 [.int x2, .int 0, .int 39] h_1) fun v_4 h_3 =>
    (mm_br (v_4 = 0) (
    mm_run E cl mm_m214 n 39 [some (.ref a0), some (.int x1), some (.int x2), some (.int x3), none] [.int 1, .ref a0] h_3) (
    mm_cI [] (cl 147 [.int x3, .int 0, .int 999] h_3) fun v_6 h_5 =>
      (mm_br (v_6 = 0) (
      mm_run E cl mm_m214 n 39 [some (.ref a0), some (.int x1), some (.int x2), some (.int x3), none] [.int 2, .ref a0] h_5) (
      mm_run E cl mm_m214 n 39 [some (.ref a0), some (.int x1), some (.int x2), some (.int x3), none] [.int 0, .ref a0] h_5)))))) := rfl
-- Mod.demand
set_option maxRecDepth 20000 in
set_option maxHeartbeats 4000000 in
theorem mm_e214_39 (E : mm_E) (cl : mm_F) (n : Nat) (a0 : Nat) (x1 : Int32) (x2 : Int32) (x3 : Int32) (o4 : Option Value) (b0 : Nat) (s1 : Int32) (h : mm_H) :
  mm_run E cl mm_m214 (n + 1) 39 [some (.ref a0), some (.int x1), some (.int x2), some (.int x3), o4] [.int s1, .ref b0] h =
  mm_pF h b0 9 0 (.int s1) fun h_1 =>
  mm_gI h_1 a0 9 0 fun v_2 =>
  (mm_br (v_2 ≤ 0) (
  mm_gR h_1 a0 9 6 fun p_3 =>
    mm_rI E h_1 p_3 ((40 * x1) + x2) fun v_4 =>
    mm_gR h_1 a0 9 6 fun p_5 =>
    mm_wI h_1 p_5 ((40 * x1) + x2) x3 fun h_6 =>
    some (.inl (some (.int v_4)), h_6)) (
  some (.inl (some (.int 0)), h_1))) := rfl
-- Mod.draw
set_option maxRecDepth 20000 in
set_option maxHeartbeats 4000000 in
theorem mm_e215_0 (E : mm_E) (cl : mm_F) (n : Nat) (a0 : Nat) (x1 : Int32) (h : mm_H) :
  mm_run E cl mm_m215 (n + 1) 0 [some (.ref a0), some (.int x1)] [] h =
  mm_gI h a0 9 18 fun v_1 =>
  mm_pF h a0 9 18 (.int ((v_1 * 1103515245) + 12345)) fun h_2 =>
  mm_gI h_2 a0 9 18 fun v_3 =>
  (mm_nz x1 (
  some (.inl (some (.int (((v_3 >>> (16 &&& 31)) &&& 32767) - ((v_3 >>> (16 &&& 31)) &&& 32767) / x1 * x1))), h_2))) := rfl
-- Mod.drawn
set_option maxRecDepth 20000 in
set_option maxHeartbeats 4000000 in
theorem mm_e216_0 (E : mm_E) (cl : mm_F) (n : Nat) (a0 : Nat) (x1 : Int32) (x2 : Int32) (h : mm_H) :
  mm_run E cl mm_m216 (n + 1) 0 [some (.ref a0), some (.int x1), some (.int x2), none, none, none] [] h =
  mm_pF h a0 9 0 (.int 0) fun h_1 =>
  mm_cI [] (cl 151 [.ref a0, .int x1] h_1) fun v_3 h_2 =>
  (mm_br (v_3 = 0) (
  mm_cI [] (cl 146 [.ref a0, .int 1] h_2) fun v_6 h_5 =>
    some (.inl (some (.int v_6)), h_5)) (
  mm_pF h_2 a0 9 18 (.int x2) fun h_4 =>
    mm_run E cl mm_m216 n 29 [some (.ref a0), some (.int x1), some (.int x2), some (.int 0), some (.int 0), none] [] h_4)) := rfl
-- Mod.drawn
set_option maxRecDepth 20000 in
set_option maxHeartbeats 4000000 in
theorem mm_e216_29 (E : mm_E) (cl : mm_F) (n : Nat) (a0 : Nat) (x1 : Int32) (x2 : Int32) (x3 : Int32) (x4 : Int32) (o5 : Option Value) (h : mm_H) :
  mm_run E cl mm_m216 (n + 1) 29 [some (.ref a0), some (.int x1), some (.int x2), some (.int x3), some (.int x4), o5] [] h =
  (mm_br (40 ≤ x4) (
  some (.inl (some (.int x3)), h)) (
  mm_cI [] (cl 152 [.ref a0, .int x1, .int 3] h) fun v_2 h_1 =>
    mm_cI [] (cl 215 [.ref a0, .int ((2 * v_2) + 1)] h_1) fun v_4 h_3 =>
    mm_gR h_3 a0 9 6 fun p_5 =>
    mm_wI h_3 p_5 ((40 * x1) + x4) v_4 fun h_6 =>
    mm_run E cl mm_m216 n 29 [some (.ref a0), some (.int x1), some (.int x2), some (.int (x3 + v_4)), some (.int (x4 + 1)), some (.int v_4)] [] h_6)) := rfl
-- Mod.called
set_option maxRecDepth 20000 in
set_option maxHeartbeats 4000000 in
theorem mm_e217_0 (E : mm_E) (cl : mm_F) (n : Nat) (a0 : Nat) (x1 : Int32) (x2 : Int32) (h : mm_H) :
  mm_run E cl mm_m217 (n + 1) 0 [some (.ref a0), some (.int x1), some (.int x2), none, none] [] h =
  (mm_br (0 ≤ x2) (
  mm_gR h a0 9 6 fun p_1 =>
    mm_rI E h p_1 ((40 * x1) + x2) fun v_2 =>
    mm_run E cl mm_m217 n 21 [some (.ref a0), some (.int x1), some (.int x2), some (.int v_2), some (.int 0)] [] h) (
  some (.inl (some (.int 0)), h))) := rfl
-- Mod.called
set_option maxRecDepth 20000 in
set_option maxHeartbeats 4000000 in
theorem mm_e217_21 (E : mm_E) (cl : mm_F) (n : Nat) (a0 : Nat) (x1 : Int32) (x2 : Int32) (x3 : Int32) (x4 : Int32) (h : mm_H) :
  mm_run E cl mm_m217 (n + 1) 21 [some (.ref a0), some (.int x1), some (.int x2), some (.int x3), some (.int x4)] [] h =
  mm_cI [] (cl 150 [.ref a0] h) fun v_2 h_1 =>
  (mm_br (v_2 ≤ x4) (
  some (.inl (some (.int x3)), h_1)) (
  mm_cI [] (cl 158 [.ref a0, .int x1] h_1) fun v_4 h_3 =>
    mm_cI [] (cl 159 [.int v_4, .int x4] h_3) fun v_6 h_5 =>
    (mm_br (v_6 = 0) (
    mm_run E cl mm_m217 n 21 [some (.ref a0), some (.int x1), some (.int x2), some (.int x3), some (.int (x4 + 1))] [] h_5) (
    mm_cI [] (cl 217 [.ref a0, .int x4, .int x2] h_5) fun v_8 h_7 =>
      mm_run E cl mm_m217 n 21 [some (.ref a0), some (.int x1), some (.int x2), some (.int (x3 + v_8)), some (.int (x4 + 1))] [] h_7)))) := rfl
-- Mod.layCalls
set_option maxRecDepth 20000 in
set_option maxHeartbeats 4000000 in
theorem mm_e218_0 (E : mm_E) (cl : mm_F) (n : Nat) (a0 : Nat) (x1 : Int32) (h : mm_H) :
  mm_run E cl mm_m218 (n + 1) 0 [some (.ref a0), some (.int x1), none] [] h =
  mm_run E cl mm_m218 n 2 [some (.ref a0), some (.int x1), some (.int 0)] [] h := rfl
-- Mod.layCalls
set_option maxRecDepth 20000 in
set_option maxHeartbeats 4000000 in
theorem mm_e218_2 (E : mm_E) (cl : mm_F) (n : Nat) (a0 : Nat) (x1 : Int32) (x2 : Int32) (h : mm_H) :
  mm_run E cl mm_m218 (n + 1) 2 [some (.ref a0), some (.int x1), some (.int x2)] [] h =
  (mm_br (40 ≤ x2) (
  mm_run E cl mm_m218 n 28 [some (.ref a0), some (.int x1), some (.int 0)] [] h) (
  mm_gR h a0 9 19 fun p_1 =>
    mm_cI [] (cl 217 [.ref a0, .int x1, .int x2] h) fun v_3 h_2 =>
    mm_wI h_2 p_1 x2 v_3 fun h_4 =>
    mm_run E cl mm_m218 n 2 [some (.ref a0), some (.int x1), some (.int (x2 + 1))] [] h_4)) := rfl
-- Mod.layCalls
set_option maxRecDepth 20000 in
set_option maxHeartbeats 4000000 in
theorem mm_e218_28 (E : mm_E) (cl : mm_F) (n : Nat) (a0 : Nat) (x1 : Int32) (x2 : Int32) (h : mm_H) :
  mm_run E cl mm_m218 (n + 1) 28 [some (.ref a0), some (.int x1), some (.int x2)] [] h =
  (mm_br (40 < x2) (
  some (.inl none, h)) (
  mm_gR h a0 9 20 fun p_1 =>
    mm_cI [] (cl 166 [.ref a0, .int x1, .int x2] h) fun v_3 h_2 =>
    mm_wI h_2 p_1 x2 v_3 fun h_4 =>
    mm_run E cl mm_m218 n 28 [some (.ref a0), some (.int x1), some (.int (x2 + 1))] [] h_4)) := rfl
-- Mod.onHand
set_option maxRecDepth 20000 in
set_option maxHeartbeats 4000000 in
theorem mm_e219_0 (E : mm_E) (cl : mm_F) (n : Nat) (a0 : Nat) (x1 : Int32) (x2 : Int32) (h : mm_H) :
  mm_run E cl mm_m219 (n + 1) 0 [some (.ref a0), some (.int x1), some (.int x2), none, none, none] [] h =
  mm_cI [] (cl 180 [.ref a0, .int x1] h) fun v_2 h_1 =>
  (mm_br (0 ≤ v_2) (
  (mm_br (v_2 = 0) (
    mm_gR h_1 a0 9 5 fun p_7 =>
      mm_rI E h_1 p_7 x1 fun v_8 =>
      mm_run E cl mm_m219 n 43 [some (.ref a0), some (.int x1), some (.int x2), some (.int v_2), some (.int 0), some (.int (((x2 - v_8) - v_2) + 1))] [] h_1) (
    mm_cI [] (cl 166 [.ref a0, .int x1, .int v_2] h_1) fun v_4 h_3 =>
      mm_gR h_3 a0 9 5 fun p_5 =>
      mm_rI E h_3 p_5 x1 fun v_6 =>
      mm_run E cl mm_m219 n 43 [some (.ref a0), some (.int x1), some (.int x2), some (.int v_2), some (.int v_4), some (.int (((x2 - v_6) - v_2) + 1))] [] h_3))) (
  some (.inl (some (.int (-1000000))), h_1))) := rfl
-- Mod.onHand
set_option maxRecDepth 20000 in
set_option maxHeartbeats 4000000 in
theorem mm_e219_43 (E : mm_E) (cl : mm_F) (n : Nat) (a0 : Nat) (x1 : Int32) (x2 : Int32) (x3 : Int32) (x4 : Int32) (x5 : Int32) (h : mm_H) :
  mm_run E cl mm_m219 (n + 1) 43 [some (.ref a0), some (.int x1), some (.int x2), some (.int x3), some (.int x4), some (.int x5)] [] h =
  mm_gR h a0 9 5 fun p_1 =>
  mm_rI E h p_1 x1 fun v_2 =>
  (mm_br ((x2 - v_2) < x5) (
  some (.inl (some (.int x4)), h)) (
  (mm_br (0 ≤ x5) (
    mm_gR h a0 9 19 fun p_3 =>
      mm_rI E h p_3 x5 fun v_4 =>
      mm_run E cl mm_m219 n 43 [some (.ref a0), some (.int x1), some (.int x2), some (.int x3), some (.int (x4 - v_4)), some (.int (x5 + 1))] [] h) (
    mm_run E cl mm_m219 n 43 [some (.ref a0), some (.int x1), some (.int x2), some (.int x3), some (.int (x4 - 0)), some (.int (x5 + 1))] [] h)))) := rfl
-- Mod.breaking
set_option maxRecDepth 20000 in
set_option maxHeartbeats 4000000 in
theorem mm_e220_0 (E : mm_E) (cl : mm_F) (n : Nat) (a0 : Nat) (x1 : Int32) (h : mm_H) :
  mm_run E cl mm_m220 (n + 1) 0 [some (.ref a0), some (.int x1), none, none, none] [] h =
  mm_run E cl mm_m220 n 7 [some (.ref a0), some (.int x1), some (.int 0), some (.int 0), some (.int 1)] [] h := rfl
-- Mod.breaking
set_option maxRecDepth 20000 in
set_option maxHeartbeats 4000000 in
theorem mm_e220_7 (E : mm_E) (cl : mm_F) (n : Nat) (a0 : Nat) (x1 : Int32) (x2 : Int32) (x3 : Int32) (x4 : Int32) (h : mm_H) :
  mm_run E cl mm_m220 (n + 1) 7 [some (.ref a0), some (.int x1), some (.int x2), some (.int x3), some (.int x4)] [] h =
  (mm_br ((x1 + 1) < x4) (
  some (.inl (some (.int x2)), h)) (
  mm_gR h a0 9 19 fun p_1 =>
    mm_rI E h p_1 ((x1 - x4) + 1) fun v_2 =>
    mm_gR h a0 9 20 fun p_3 =>
    mm_rI E h p_3 x4 fun v_4 =>
    (mm_br ((x3 + v_2) ≤ v_4) (
    mm_run E cl mm_m220 n 7 [some (.ref a0), some (.int x1), some (.int x2), some (.int (x3 + v_2)), some (.int (x4 + 1))] [] h) (
    mm_run E cl mm_m220 n 7 [some (.ref a0), some (.int x1), some (.int x4), some (.int (x3 + v_2)), some (.int (x4 + 1))] [] h)))) := rfl
-- Mod.day
set_option maxRecDepth 20000 in
set_option maxHeartbeats 4000000 in
theorem mm_e221_0 (E : mm_E) (cl : mm_F) (n : Nat) (a0 : Nat) (x1 : Int32) (x2 : Int32) (x3 : Int32) (h : mm_H) :
  mm_run E cl mm_m221 (n + 1) 0 [some (.ref a0), some (.int x1), some (.int x2), some (.int x3)] [] h =
  mm_pF h a0 9 0 (.int 0) fun h_1 =>
  mm_cI [] (cl 151 [.ref a0, .int x1] h_1) fun v_3 h_2 =>
  (mm_br (v_3 = 0) (
  mm_cI [] (cl 146 [.ref a0, .int 1] h_2) fun v_5 h_4 =>
    some (.inl (some (.int v_5)), h_4)) (
  mm_cI [] (cl 147 [.int x2, .int 0, .int 39] h_2) fun v_7 h_6 =>
    (mm_br (v_7 = 0) (
    mm_cI [] (cl 146 [.ref a0, .int 1] h_6) fun v_9 h_8 =>
      some (.inl (some (.int v_9)), h_8)) (
    mm_cI [] (cl 147 [.int x3, .int 0, .int 3] h_6) fun v_11 h_10 =>
      (mm_br (v_11 = 0) (
      mm_cI [] (cl 146 [.ref a0, .int 1] h_10) fun v_22 h_21 =>
        some (.inl (some (.int v_22)), h_21)) (
      mm_cV [] (cl 218 [.ref a0, .int x1] h_10) fun h_12 =>
        (mm_br (x3 = 0) (
        mm_gR h_12 a0 9 6 fun p_19 =>
          mm_rI E h_12 p_19 ((40 * x1) + x2) fun v_20 =>
          some (.inl (some (.int v_20)), h_12)) (
        (mm_br (x3 = 1) (
          mm_gR h_12 a0 9 19 fun p_17 =>
            mm_rI E h_12 p_17 x2 fun v_18 =>
            some (.inl (some (.int v_18)), h_12)) (
          (mm_br (x3 = 2) (
            mm_cI [] (cl 219 [.ref a0, .int x1, .int x2] h_12) fun v_16 h_15 =>
              some (.inl (some (.int v_16)), h_15)) (
            mm_cI [] (cl 220 [.ref a0, .int x2] h_12) fun v_14 h_13 =>
              some (.inl (some (.int v_14)), h_13))))))))))))) := rfl
-- Mod.days
set_option maxRecDepth 20000 in
set_option maxHeartbeats 4000000 in
theorem mm_e222_0 (E : mm_E) (cl : mm_F) (n : Nat) (a0 : Nat) (x1 : Int32) (x2 : Int32) (h : mm_H) :
  mm_run E cl mm_m222 (n + 1) 0 [some (.ref a0), some (.int x1), some (.int x2), none, none, none, none] [] h =
  mm_pF h a0 9 0 (.int 0) fun h_1 =>
  mm_cI [] (cl 151 [.ref a0, .int x1] h_1) fun v_3 h_2 =>
  (mm_br (v_3 = 0) (
  mm_cI [] (cl 146 [.ref a0, .int 1] h_2) fun v_5 h_4 =>
    some (.inl (some (.int v_5)), h_4)) (
  mm_cI [] (cl 147 [.int x2, .int 0, .int 2] h_2) fun v_7 h_6 =>
    (mm_br (v_7 = 0) (
    mm_cI [] (cl 146 [.ref a0, .int 1] h_6) fun v_14 h_13 =>
      some (.inl (some (.int v_14)), h_13)) (
    mm_cV [] (cl 218 [.ref a0, .int x1] h_6) fun h_8 =>
      (mm_br (x2 = 1) (
      mm_run E cl mm_m222 n 40 [some (.ref a0), some (.int x1), some (.int x2), some (.int 0), none, none, none] [] h_8) (
      mm_cI [] (cl 180 [.ref a0, .int x1] h_8) fun v_10 h_9 =>
        (mm_br (0 ≤ v_10) (
        mm_cI [] (cl 219 [.ref a0, .int x1, .int 0] h_9) fun v_12 h_11 =>
          mm_run E cl mm_m222 n 96 [some (.ref a0), some (.int x1), some (.int x2), some (.int 0), some (.int v_12), some (.int 0), none] [] h_11) (
        (mm_br (x2 = 0) (
          some (.inl (some (.int (-1))), h_9)) (
          some (.inl (some (.int (-1000000))), h_9))))))))))) := rfl
-- Mod.days
set_option maxRecDepth 20000 in
set_option maxHeartbeats 4000000 in
theorem mm_e222_40 (E : mm_E) (cl : mm_F) (n : Nat) (a0 : Nat) (x1 : Int32) (x2 : Int32) (x3 : Int32) (o4 : Option Value) (o5 : Option Value) (o6 : Option Value) (h : mm_H) :
  mm_run E cl mm_m222 (n + 1) 40 [some (.ref a0), some (.int x1), some (.int x2), some (.int x3), o4, o5, o6] [] h =
  (mm_br (40 ≤ x3) (
  some (.inl (some (.int (-1))), h)) (
  mm_cI [] (cl 220 [.ref a0, .int x3] h) fun v_2 h_1 =>
    (mm_br (v_2 ≤ 0) (
    mm_run E cl mm_m222 n 40 [some (.ref a0), some (.int x1), some (.int x2), some (.int (x3 + 1)), o4, o5, o6] [] h_1) (
    some (.inl (some (.int x3)), h_1))))) := rfl
