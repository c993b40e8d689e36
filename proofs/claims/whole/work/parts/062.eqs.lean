/-! EQUATIONS of the runs (by program: wip/whole/eqgen.py) -/
-- Net.aheadInChain
set_option maxRecDepth 20000 in
set_option maxHeartbeats 4000000 in
theorem mm_e60_4 (E : mm_E) (cl : mm_F) (n : Nat) (a0 : Nat) (x1 : Int32) (x2 : Int32) (x3 : Int32) (h : mm_H) :
  mm_run E cl mm_m60 (n + 1) 4 [some (.ref a0), some (.int x1), some (.int x2), some (.int x3)] [] h =
  mm_gI h a0 3 10 fun v_1 =>
  (mm_br (v_1 ≤ x3) (
  (mm_br (x2 = (-1)) (
    (mm_br ((0 : Int32) = 0) (
      some (.inl (some (.int (-1))), h)) (
      some (.inl (some (.int x2)), h)))) (
    mm_gR h a0 3 9 fun p_2 =>
      mm_rI E h p_2 x2 fun v_3 =>
      mm_cI [] (cl 30 [.ref a0, .int x1, .int 0] h) fun v_5 h_4 =>
      mm_gR h_4 a0 3 9 fun p_6 =>
      mm_rI E h_4 p_6 x1 fun v_7 =>
      (mm_br ((v_3 + v_5) = v_7) (
      (mm_br ((1 : Int32) = 0) (
        some (.inl (some (.int (-1))), h_4)) (
        some (.inl (some (.int x2)), h_4)))) (
      (mm_br ((0 : Int32) = 0) (
        some (.inl (some (.int (-1))), h_4)) (
        some (.inl (some (.int x2)), h_4)))))))) (
  mm_cI [] (cl 32 [.ref a0, .int x3, .int x1] h) fun v_9 h_8 =>
    (mm_br (v_9 = 0) (
    mm_run E cl mm_m60 n 4 [some (.ref a0), some (.int x1), some (.int x2), some (.int (x3 + 1))] [] h_8) (
    (mm_br (x2 = (-1)) (
      mm_run E cl mm_m60 n 4 [some (.ref a0), some (.int x1), some (.int x3), some (.int (x3 + 1))] [] h_8) (
      mm_gR h_8 a0 3 9 fun p_10 =>
        mm_rI E h_8 p_10 x3 fun v_11 =>
        mm_gR h_8 a0 3 9 fun p_12 =>
        mm_rI E h_8 p_12 x2 fun v_13 =>
        (mm_br (v_11 ≤ v_13) (
        mm_run E cl mm_m60 n 4 [some (.ref a0), some (.int x1), some (.int x2), some (.int (x3 + 1))] [] h_8) (
        mm_run E cl mm_m60 n 4 [some (.ref a0), some (.int x1), some (.int x3), some (.int (x3 + 1))] [] h_8)))))))) := rfl
-- Net.has
set_option maxRecDepth 20000 in
set_option maxHeartbeats 4000000 in
theorem mm_e61_0 (E : mm_E) (cl : mm_F) (n : Nat) (x0 : Int32) (x1 : Int32) (h : mm_H) :
  mm_run E cl mm_m61 (n + 1) 0 [some (.int x0), some (.int x1)] [] h =
  (mm_br (((x0 >>> (x1 &&& 31)) &&& 1) = 0) (
  (mm_bz 0 (some (.inl (some (.int 0)), h)))) (
  (mm_bz 1 (some (.inl (some (.int 1)), h))))) := rfl
-- Que.init
set_option maxRecDepth 20000 in
set_option maxHeartbeats 4000000 in
theorem mm_e62_0 (E : mm_E) (cl : mm_F) (n : Nat) (a0 : Nat) (a1 : Nat) (a2 : Nat) (h : mm_H) :
  mm_run E cl mm_m62 (n + 1) 0 [some (.ref a0), some (.ref a1), some (.ref a2)] [] h =
  mm_nn 200 fun k_3 => mm_al h (.inr (.inl (k_3, fun _ => 0))) k_3 fun p_1 h_2 =>
  mm_pF h_2 a0 4 2 (.ref p_1) fun h_4 =>
  mm_nn 64 fun k_7 => mm_al h_4 (.inr (.inl (k_7, fun _ => 0))) k_7 fun p_5 h_6 =>
  mm_pF h_6 a0 4 3 (.ref p_5) fun h_8 =>
  mm_pF h_8 a0 4 4 (.int 0) fun h_9 =>
  mm_pF h_9 a0 4 5 (.int 0) fun h_10 =>
  mm_pF h_10 a0 4 6 (.int 0) fun h_11 =>
  mm_pF h_11 a0 4 0 (.ref a1) fun h_12 =>
  mm_pF h_12 a0 4 1 (.ref a2) fun h_13 =>
  some (.inl none, h_13) := rfl
-- Que.read
set_option maxRecDepth 20000 in
set_option maxHeartbeats 4000000 in
theorem mm_e63_0 (E : mm_E) (cl : mm_F) (n : Nat) (a0 : Nat) (x1 : Int32) (h : mm_H) :
  mm_run E cl mm_m63 (n + 1) 0 [some (.ref a0), some (.int x1), none] [] h =
  mm_pF h a0 4 6 (.int 0) fun h_1 =>
  mm_pF h_1 a0 4 4 (.int 0) fun h_2 =>
  mm_gR h_2 a0 4 0 fun p_3 =>
  mm_cV [] (cl 94 [.ref p_3, .int x1] h_2) fun h_4 =>
  mm_gR h_4 a0 4 0 fun p_5 =>
  mm_cI [] (cl 98 [.ref p_5, .ref (E.2.2.1 18)] h_4) fun v_7 h_6 =>
  mm_pF h_6 a0 4 5 (.int v_7) fun h_8 =>
  mm_gI h_8 a0 4 5 fun v_9 =>
  (mm_br (v_9 = (-1)) (
  some (.inl (some (.int 1)), h_8)) (
  mm_gR h_8 a0 4 0 fun p_10 =>
    mm_cV [] (cl 95 [.ref p_10] h_8) fun h_11 =>
    mm_gI h_11 a0 4 5 fun v_12 =>
    (mm_br (2 ≤ v_12) (
    mm_cI [] (cl 66 [.ref a0, .int 0] h_11) fun v_14 h_13 =>
      (mm_br (v_14 = 0) (
      mm_gI h_13 a0 4 6 fun v_15 =>
        some (.inl (some (.int v_15)), h_13)) (
      mm_gR h_13 a0 4 0 fun p_16 =>
        mm_gI h_13 p_16 7 5 fun v_17 =>
        (mm_br (v_17 = 0) (
        mm_gI h_13 a0 4 6 fun v_18 =>
          some (.inl (some (.int v_18)), h_13)) (
        mm_pF h_13 a0 4 6 (.int 1) fun h_19 =>
          mm_gI h_19 a0 4 6 fun v_20 =>
          some (.inl (some (.int v_20)), h_19)))))) (
    mm_cI [] (cl 64 [.ref a0, .int 0] h_11) fun v_22 h_21 =>
      (mm_br (v_22 = 0) (
      mm_gI h_21 a0 4 6 fun v_23 =>
        some (.inl (some (.int v_23)), h_21)) (
      mm_gR h_21 a0 4 0 fun p_24 =>
        mm_gI h_21 p_24 7 5 fun v_25 =>
        (mm_br (v_25 = 0) (
        mm_gI h_21 a0 4 6 fun v_26 =>
          some (.inl (some (.int v_26)), h_21)) (
        mm_pF h_21 a0 4 6 (.int 1) fun h_27 =>
          mm_gI h_27 a0 4 6 fun v_28 =>
          some (.inl (some (.int v_28)), h_27))))))))) := rfl
-- Que.readTest
set_option maxRecDepth 20000 in
set_option maxHeartbeats 4000000 in
theorem mm_e64_0 (E : mm_E) (cl : mm_F) (n : Nat) (a0 : Nat) (x1 : Int32) (h : mm_H) :
  mm_run E cl mm_m64 (n + 1) 0 [some (.ref a0), some (.int x1), none, none] [] h =
  mm_run E cl mm_m64 n 2 [some (.ref a0), some (.int x1), some (.int 0), none] [] h := rfl
-- Que.readTest
set_option maxRecDepth 20000 in
set_option maxHeartbeats 4000000 in
theorem mm_e64_2 (E : mm_E) (cl : mm_F) (n : Nat) (a0 : Nat) (x1 : Int32) (x2 : Int32) (o3 : Option Value) (h : mm_H) :
  mm_run E cl mm_m64 (n + 1) 2 [some (.ref a0), some (.int x1), some (.int x2), o3] [] h =
  (mm_br (200 ≤ x2) (
  mm_cI [] (cl 70 [.ref a0, .int 1] h) fun v_2 h_1 =>
    (mm_bz v_2 (some (.inl (some (.int v_2)), h_1)))) (
  mm_cI [] (cl 65 [.ref a0, .int x1] h) fun v_4 h_3 =>
    (mm_br (v_4 = 0) (
    (mm_bz 0 (some (.inl (some (.int 0)), h_3)))) (
    mm_run E cl mm_m64 n 21 [some (.ref a0), some (.int x1), some (.int x2), some (.int 0)] [] h_3)))) := rfl
-- Que.readTest
set_option maxRecDepth 20000 in
set_option maxHeartbeats 4000000 in
theorem mm_e64_21 (E : mm_E) (cl : mm_F) (n : Nat) (a0 : Nat) (x1 : Int32) (x2 : Int32) (x3 : Int32) (h : mm_H) :
  mm_run E cl mm_m64 (n + 1) 21 [some (.ref a0), some (.int x1), some (.int x2), some (.int x3)] [] h =
  (mm_br (200 ≤ x3) (
  (mm_br (x2 ≤ 0) (
    mm_run E cl mm_m64 n 74 [some (.ref a0), some (.int x1), some (.int x2), some (.int x3)] [] h) (
    mm_cI [] (cl 69 [.ref a0, .int 38] h) fun v_2 h_1 =>
      mm_run E cl mm_m64 n 74 [some (.ref a0), some (.int x1), some (.int x2), some (.int x3)] [] h_1))) (
  mm_gR h a0 4 0 fun p_3 =>
    mm_cI [] (cl 97 [.ref p_3, .ref (E.2.2.1 21)] h) fun v_5 h_4 =>
    (mm_br (v_5 = 0) (
    (mm_br (x2 ≤ 0) (
      mm_run E cl mm_m64 n 74 [some (.ref a0), some (.int x1), some (.int x2), some (.int x3)] [] h_4) (
      mm_cI [] (cl 69 [.ref a0, .int 38] h_4) fun v_7 h_6 =>
        mm_run E cl mm_m64 n 74 [some (.ref a0), some (.int x1), some (.int x2), some (.int x3)] [] h_6))) (
    mm_cI [] (cl 65 [.ref a0, .int x1] h_4) fun v_9 h_8 =>
      (mm_br (v_9 = 0) (
      (mm_bz 0 (some (.inl (some (.int 0)), h_8)))) (
      mm_cI [] (cl 69 [.ref a0, .int 37] h_8) fun v_11 h_10 =>
        mm_run E cl mm_m64 n 21 [some (.ref a0), some (.int x1), some (.int x2), some (.int (x3 + 1))] [] h_10)))))) := rfl
-- Que.readTest
set_option maxRecDepth 20000 in
set_option maxHeartbeats 4000000 in
theorem mm_e64_74 (E : mm_E) (cl : mm_F) (n : Nat) (a0 : Nat) (x1 : Int32) (x2 : Int32) (x3 : Int32) (h : mm_H) :
  mm_run E cl mm_m64 (n + 1) 74 [some (.ref a0), some (.int x1), some (.int x2), some (.int x3)] [] h =
  mm_gR h a0 4 0 fun p_1 =>
  mm_cI [] (cl 97 [.ref p_1, .ref (E.2.2.1 22)] h) fun v_3 h_2 =>
  (mm_br (v_3 = 0) (
  (mm_bz 1 (some (.inl (some (.int 1)), h_2)))) (
  mm_run E cl mm_m64 n 2 [some (.ref a0), some (.int x1), some (.int (x2 + 1)), some (.int x3)] [] h_2)) := rfl
-- Que.readFact
set_option maxRecDepth 20000 in
set_option maxHeartbeats 4000000 in
theorem mm_e65_0 (E : mm_E) (cl : mm_F) (n : Nat) (a0 : Nat) (x1 : Int32) (h : mm_H) :
  mm_run E cl mm_m65 (n + 1) 0 [some (.ref a0), some (.int x1), none, none] [] h =
  mm_gR h a0 4 0 fun p_1 =>
  mm_cI [] (cl 98 [.ref p_1, .ref (E.2.2.1 19)] h) fun v_3 h_2 =>
  (mm_br (v_3 = 0) (
  mm_run E cl mm_m65 n 17 [some (.ref a0), some (.int x1), none, none] [.int 1] h_2) (
  mm_run E cl mm_m65 n 17 [some (.ref a0), some (.int x1), none, none] [.int 0] h_2)) := rfl
-- Que.readFact
set_option maxRecDepth 20000 in
set_option maxHeartbeats 4000000 in
theorem mm_e65_17 (E : mm_E) (cl : mm_F) (n : Nat) (a0 : Nat) (x1 : Int32) (o2 : Option Value) (o3 : Option Value) (s0 : Int32) (h : mm_H) :
  mm_run E cl mm_m65 (n + 1) 17 [some (.ref a0), some (.int x1), o2, o3] [.int s0] h =
  (mm_br (s0 = 0) (
  mm_gR h a0 4 0 fun p_1 =>
    mm_cI [] (cl 96 [.ref p_1, .int 123] h) fun v_3 h_2 =>
    (mm_br (v_3 = 0) (
    mm_cI [] (cl 66 [.ref a0, .int x1] h_2) fun v_5 h_4 =>
      (mm_br (v_5 = 0) (
      (mm_bz 0 (some (.inl (some (.int 0)), h_4)))) (
      mm_gR h_4 a0 4 0 fun p_6 =>
        mm_cI [] (cl 96 [.ref p_6, .int 60] h_4) fun v_8 h_7 =>
        (mm_br (v_8 = 0) (
        mm_gR h_7 a0 4 0 fun p_9 =>
          mm_cI [] (cl 96 [.ref p_9, .int 61] h_7) fun v_11 h_10 =>
          (mm_br (v_11 = 0) (
          mm_gR h_10 a0 4 0 fun p_12 =>
            mm_cI [] (cl 96 [.ref p_12, .int 62] h_10) fun v_14 h_13 =>
            (mm_br (v_14 = 0) (
            mm_run E cl mm_m65 n 183 [some (.ref a0), some (.int x1), some (.int s0), o3] [.int (-1)] h_13) (
            mm_run E cl mm_m65 n 183 [some (.ref a0), some (.int x1), some (.int s0), o3] [.int 35] h_13))) (
          mm_run E cl mm_m65 n 183 [some (.ref a0), some (.int x1), some (.int s0), o3] [.int 34] h_10))) (
        mm_run E cl mm_m65 n 183 [some (.ref a0), some (.int x1), some (.int s0), o3] [.int 33] h_7))))) (
    mm_run E cl mm_m65 n 34 [some (.ref a0), some (.int x1), some (.int s0), o3] [] h_2))) (
  mm_run E cl mm_m65 n 34 [some (.ref a0), some (.int x1), some (.int s0), o3] [] h)) := rfl
-- Que.readFact
set_option maxRecDepth 20000 in
set_option maxHeartbeats 4000000 in
theorem mm_e65_34 (E : mm_E) (cl : mm_F) (n : Nat) (a0 : Nat) (x1 : Int32) (x2 : Int32) (o3 : Option Value) (h : mm_H) :
  mm_run E cl mm_m65 (n + 1) 34 [some (.ref a0), some (.int x1), some (.int x2), o3] [] h =
  (mm_br (x1 < 6) (
  mm_gR h a0 4 0 fun p_1 =>
    mm_cV [] (cl 95 [.ref p_1] h) fun h_2 =>
    (mm_br (x2 = 0) (
    mm_cI [] (cl 64 [.ref a0, .int (x1 + 1)] h_2) fun v_4 h_3 =>
      (mm_br (v_4 = 0) (
      (mm_bz 0 (some (.inl (some (.int 0)), h_3)))) (
      mm_gR h_3 a0 4 0 fun p_5 =>
        mm_cI [] (cl 96 [.ref p_5, .int 125] h_3) fun v_7 h_6 =>
        (mm_br (v_7 = 0) (
        mm_cI [] (cl 70 [.ref a0, .int 1] h_6) fun v_11 h_10 =>
          (mm_bz v_11 (some (.inl (some (.int v_11)), h_10)))) (
        mm_gR h_6 a0 4 0 fun p_8 =>
          mm_cV [] (cl 95 [.ref p_8] h_6) fun h_9 =>
          (mm_bz 1 (some (.inl (some (.int 1)), h_9)))))))) (
    mm_cI [] (cl 65 [.ref a0, .int (x1 + 1)] h_2) fun v_13 h_12 =>
      (mm_br (v_13 = 0) (
      (mm_bz 0 (some (.inl (some (.int 0)), h_12)))) (
      mm_cI [] (cl 69 [.ref a0, .int 36] h_12) fun v_15 h_14 =>
        (mm_br (v_15 = 0) (
        (mm_bz 0 (some (.inl (some (.int 0)), h_14)))) (
        (mm_bz 1 (some (.inl (some (.int 1)), h_14)))))))))) (
  mm_cI [] (cl 70 [.ref a0, .int 3] h) fun v_17 h_16 =>
    (mm_bz v_17 (some (.inl (some (.int v_17)), h_16))))) := rfl
-- Que.readFact
set_option maxRecDepth 20000 in
set_option maxHeartbeats 4000000 in
theorem mm_e65_183 (E : mm_E) (cl : mm_F) (n : Nat) (a0 : Nat) (x1 : Int32) (x2 : Int32) (o3 : Option Value) (s0 : Int32) (h : mm_H) :
  mm_run E cl mm_m65 (n + 1) 183 [some (.ref a0), some (.int x1), some (.int x2), o3] [.int s0] h =
  (mm_br (s0 = (-1)) (
  mm_cI [] (cl 70 [.ref a0, .int 1] h) fun v_8 h_7 =>
    (mm_bz v_8 (some (.inl (some (.int v_8)), h_7)))) (
  mm_gR h a0 4 0 fun p_1 =>
    mm_cV [] (cl 95 [.ref p_1] h) fun h_2 =>
    mm_cI [] (cl 66 [.ref a0, .int x1] h_2) fun v_4 h_3 =>
    (mm_br (v_4 = 0) (
    (mm_bz 0 (some (.inl (some (.int 0)), h_3)))) (
    mm_cI [] (cl 69 [.ref a0, .int s0] h_3) fun v_6 h_5 =>
      (mm_br (v_6 = 0) (
      (mm_bz 0 (some (.inl (some (.int 0)), h_5)))) (
      (mm_bz 1 (some (.inl (some (.int 1)), h_5))))))))) := rfl
-- Que.readSum
set_option maxRecDepth 20000 in
set_option maxHeartbeats 4000000 in
theorem mm_e66_0 (E : mm_E) (cl : mm_F) (n : Nat) (a0 : Nat) (x1 : Int32) (h : mm_H) :
  mm_run E cl mm_m66 (n + 1) 0 [some (.ref a0), some (.int x1), none, none, none] [] h =
  mm_run E cl mm_m66 n 4 [some (.ref a0), some (.int x1), some (.int (-1)), some (.int 0), none] [] h := rfl
-- Que.readSum
set_option maxRecDepth 20000 in
set_option maxHeartbeats 4000000 in
theorem mm_e66_4 (E : mm_E) (cl : mm_F) (n : Nat) (a0 : Nat) (x1 : Int32) (x2 : Int32) (x3 : Int32) (o4 : Option Value) (h : mm_H) :
  mm_run E cl mm_m66 (n + 1) 4 [some (.ref a0), some (.int x1), some (.int x2), some (.int x3), o4] [] h =
  (mm_br (200 ≤ x3) (
  mm_cI [] (cl 70 [.ref a0, .int 1] h) fun v_2 h_1 =>
    (mm_bz v_2 (some (.inl (some (.int v_2)), h_1)))) (
  mm_cI [] (cl 67 [.ref a0, .int x1] h) fun v_4 h_3 =>
    (mm_br (v_4 = 0) (
    (mm_bz 0 (some (.inl (some (.int 0)), h_3)))) (
    mm_run E cl mm_m66 n 24 [some (.ref a0), some (.int x1), some (.int x2), some (.int x3), some (.int 0)] [] h_3)))) := rfl
-- Que.readSum
set_option maxRecDepth 20000 in
set_option maxHeartbeats 4000000 in
theorem mm_e66_24 (E : mm_E) (cl : mm_F) (n : Nat) (a0 : Nat) (x1 : Int32) (x2 : Int32) (x3 : Int32) (x4 : Int32) (h : mm_H) :
  mm_run E cl mm_m66 (n + 1) 24 [some (.ref a0), some (.int x1), some (.int x2), some (.int x3), some (.int x4)] [] h =
  (mm_br (200 ≤ x4) (
  (mm_br (x2 = (-1)) (
    mm_run E cl mm_m66 n 85 [some (.ref a0), some (.int x1), some (.int x2), some (.int x3), some (.int x4)] [] h) (
    mm_cI [] (cl 69 [.ref a0, .int x2] h) fun v_2 h_1 =>
      mm_run E cl mm_m66 n 85 [some (.ref a0), some (.int x1), some (.int x2), some (.int x3), some (.int x4)] [] h_1))) (
  mm_gR h a0 4 0 fun p_3 =>
    mm_cI [] (cl 96 [.ref p_3, .int 42] h) fun v_5 h_4 =>
    (mm_br (v_5 = 0) (
    (mm_br (x2 = (-1)) (
      mm_run E cl mm_m66 n 85 [some (.ref a0), some (.int x1), some (.int x2), some (.int x3), some (.int x4)] [] h_4) (
      mm_cI [] (cl 69 [.ref a0, .int x2] h_4) fun v_7 h_6 =>
        mm_run E cl mm_m66 n 85 [some (.ref a0), some (.int x1), some (.int x2), some (.int x3), some (.int x4)] [] h_6))) (
    mm_gR h_4 a0 4 0 fun p_8 =>
      mm_cV [] (cl 95 [.ref p_8] h_4) fun h_9 =>
      mm_cI [] (cl 67 [.ref a0, .int x1] h_9) fun v_11 h_10 =>
      (mm_br (v_11 = 0) (
      (mm_bz 0 (some (.inl (some (.int 0)), h_10)))) (
      mm_cI [] (cl 69 [.ref a0, .int 30] h_10) fun v_13 h_12 =>
        mm_run E cl mm_m66 n 24 [some (.ref a0), some (.int x1), some (.int x2), some (.int x3), some (.int (x4 + 1))] [] h_12)))))) := rfl
-- Que.readSum
set_option maxRecDepth 20000 in
set_option maxHeartbeats 4000000 in
theorem mm_e66_85 (E : mm_E) (cl : mm_F) (n : Nat) (a0 : Nat) (x1 : Int32) (x2 : Int32) (x3 : Int32) (x4 : Int32) (h : mm_H) :
  mm_run E cl mm_m66 (n + 1) 85 [some (.ref a0), some (.int x1), some (.int x2), some (.int x3), some (.int x4)] [] h =
  mm_gR h a0 4 0 fun p_1 =>
  mm_cI [] (cl 96 [.ref p_1, .int 43] h) fun v_3 h_2 =>
  (mm_br (v_3 = 0) (
  mm_gR h_2 a0 4 0 fun p_4 =>
    mm_cI [] (cl 96 [.ref p_4, .int 45] h_2) fun v_6 h_5 =>
    (mm_br (v_6 = 0) (
    (mm_br (((-1) : Int32) = (-1)) (
      (mm_bz 1 (some (.inl (some (.int 1)), h_5)))) (
      mm_gR h_5 a0 4 0 fun p_7 =>
        mm_cV [] (cl 95 [.ref p_7] h_5) fun h_8 =>
        mm_run E cl mm_m66 n 4 [some (.ref a0), some (.int x1), some (.int (-1)), some (.int (x3 + 1)), some (.int x4)] [] h_8))) (
    (mm_br ((32 : Int32) = (-1)) (
      (mm_bz 1 (some (.inl (some (.int 1)), h_5)))) (
      mm_gR h_5 a0 4 0 fun p_9 =>
        mm_cV [] (cl 95 [.ref p_9] h_5) fun h_10 =>
        mm_run E cl mm_m66 n 4 [some (.ref a0), some (.int x1), some (.int 32), some (.int (x3 + 1)), some (.int x4)] [] h_10))))) (
  (mm_br ((31 : Int32) = (-1)) (
    (mm_bz 1 (some (.inl (some (.int 1)), h_2)))) (
    mm_gR h_2 a0 4 0 fun p_11 =>
      mm_cV [] (cl 95 [.ref p_11] h_2) fun h_12 =>
      mm_run E cl mm_m66 n 4 [some (.ref a0), some (.int x1), some (.int 31), some (.int (x3 + 1)), some (.int x4)] [] h_12)))) := rfl
-- Que.readPart
set_option maxRecDepth 20000 in
set_option maxHeartbeats 4000000 in
theorem mm_e67_0 (E : mm_E) (cl : mm_F) (n : Nat) (a0 : Nat) (x1 : Int32) (h : mm_H) :
  mm_run E cl mm_m67 (n + 1) 0 [some (.ref a0), some (.int x1)] [] h =
  mm_gR h a0 4 0 fun p_1 =>
  mm_cI [] (cl 96 [.ref p_1, .int 40] h) fun v_3 h_2 =>
  (mm_br (v_3 = 0) (
  mm_cI [] (cl 68 [.ref a0] h_2) fun v_5 h_4 =>
    (mm_br (v_5 = 0) (
    (mm_bz 0 (some (.inl (some (.int 0)), h_4)))) (
    mm_gR h_4 a0 4 0 fun p_6 =>
      mm_cV [] (cl 95 [.ref p_6] h_4) fun h_7 =>
      (mm_bz 1 (some (.inl (some (.int 1)), h_7)))))) (
  (mm_br (x1 < 6) (
    mm_gR h_2 a0 4 0 fun p_8 =>
      mm_cV [] (cl 95 [.ref p_8] h_2) fun h_9 =>
      mm_cI [] (cl 66 [.ref a0, .int (x1 + 1)] h_9) fun v_11 h_10 =>
      (mm_br (v_11 = 0) (
      (mm_bz 0 (some (.inl (some (.int 0)), h_10)))) (
      mm_gR h_10 a0 4 0 fun p_12 =>
        mm_cI [] (cl 96 [.ref p_12, .int 41] h_10) fun v_14 h_13 =>
        (mm_br (v_14 = 0) (
        mm_cI [] (cl 70 [.ref a0, .int 1] h_13) fun v_18 h_17 =>
          (mm_bz v_18 (some (.inl (some (.int v_18)), h_17)))) (
        mm_gR h_13 a0 4 0 fun p_15 =>
          mm_cV [] (cl 95 [.ref p_15] h_13) fun h_16 =>
          (mm_bz 1 (some (.inl (some (.int 1)), h_16)))))))) (
    mm_cI [] (cl 70 [.ref a0, .int 3] h_2) fun v_20 h_19 =>
      (mm_bz v_20 (some (.inl (some (.int v_20)), h_19))))))) := rfl
-- Que.markPart
set_option maxRecDepth 20000 in
set_option maxHeartbeats 4000000 in
theorem mm_e68_0 (E : mm_E) (cl : mm_F) (n : Nat) (a0 : Nat) (h : mm_H) :
  mm_run E cl mm_m68 (n + 1) 0 [some (.ref a0), none] [] h =
  mm_gR h a0 4 0 fun p_1 =>
  mm_gI h p_1 7 5 fun v_2 =>
  (mm_br (v_2 = 2) (
  mm_gR h a0 4 0 fun p_10 =>
    mm_cI [] (cl 99 [.ref p_10] h) fun v_12 h_11 =>
    (mm_br (9999 < v_12) (
    mm_cI [] (cl 70 [.ref a0, .int 2] h_11) fun v_14 h_13 =>
      (mm_bz v_14 (some (.inl (some (.int v_14)), h_13)))) (
    mm_cI [] (cl 69 [.ref a0, .int (100 + v_12)] h_11) fun v_16 h_15 =>
      (mm_bz v_16 (some (.inl (some (.int v_16)), h_15)))))) (
  mm_gR h a0 4 0 fun p_3 =>
    mm_cI [] (cl 98 [.ref p_3, .ref (E.2.2.1 20)] h) fun v_5 h_4 =>
    (mm_br (v_5 = (-1)) (
    mm_cI [] (cl 70 [.ref a0, .int 1] h_4) fun v_7 h_6 =>
      (mm_bz v_7 (some (.inl (some (.int v_7)), h_6)))) (
    mm_cI [] (cl 69 [.ref a0, .int v_5] h_4) fun v_9 h_8 =>
      (mm_bz v_9 (some (.inl (some (.int v_9)), h_8))))))) := rfl
-- Que.mark
set_option maxRecDepth 20000 in
set_option maxHeartbeats 4000000 in
theorem mm_e69_0 (E : mm_E) (cl : mm_F) (n : Nat) (a0 : Nat) (x1 : Int32) (h : mm_H) :
  mm_run E cl mm_m69 (n + 1) 0 [some (.ref a0), some (.int x1)] [] h =
  mm_gI h a0 4 4 fun v_1 =>
  mm_gR h a0 4 2 fun p_2 =>
  mm_ln E h p_2 fun v_3 =>
  (mm_br (v_3 ≤ v_1) (
  (mm_bz 1 (some (.inl (some (.int 1)), h)))) (
  mm_gR h a0 4 2 fun p_4 =>
    mm_gI h a0 4 4 fun v_5 =>
    mm_wI h p_4 v_5 x1 fun h_6 =>
    mm_gI h_6 a0 4 4 fun v_7 =>
    mm_pF h_6 a0 4 4 (.int (v_7 + 1)) fun h_8 =>
    (mm_bz 1 (some (.inl (some (.int 1)), h_8))))) := rfl
-- Que.refuse
set_option maxRecDepth 20000 in
set_option maxHeartbeats 4000000 in
theorem mm_e70_0 (E : mm_E) (cl : mm_F) (n : Nat) (a0 : Nat) (x1 : Int32) (h : mm_H) :
  mm_run E cl mm_m70 (n + 1) 0 [some (.ref a0), some (.int x1)] [] h =
  mm_pF h a0 4 6 (.int x1) fun h_1 =>
  (mm_bz 0 (some (.inl (some (.int 0)), h_1))) := rfl
-- Que.answer
set_option maxRecDepth 20000 in
set_option maxHeartbeats 4000000 in
theorem mm_e71_0 (E : mm_E) (cl : mm_F) (n : Nat) (a0 : Nat) (h : mm_H) :
  mm_run E cl mm_m71 (n + 1) 0 [some (.ref a0), none, none, none] [] h =
  mm_gI h a0 4 5 fun v_1 =>
  (mm_br (v_1 = 1) (
  mm_run E cl mm_m71 n 16 [some (.ref a0), some (.int (-1)), some (.int 0), none] [] h) (
  mm_run E cl mm_m71 n 16 [some (.ref a0), some (.int 0), some (.int 0), none] [] h)) := rfl
-- Que.answer
set_option maxRecDepth 20000 in
set_option maxHeartbeats 4000000 in
theorem mm_e71_16 (E : mm_E) (cl : mm_F) (n : Nat) (a0 : Nat) (x1 : Int32) (x2 : Int32) (o3 : Option Value) (h : mm_H) :
  mm_run E cl mm_m71 (n + 1) 16 [some (.ref a0), some (.int x1), some (.int x2), o3] [] h =
  mm_gR h a0 4 1 fun p_1 =>
  mm_gI h p_1 3 10 fun v_2 =>
  (mm_br (v_2 ≤ x2) (
  some (.inl (some (.int x1)), h)) (
  mm_cI [] (cl 72 [.ref a0, .int x2] h) fun v_4 h_3 =>
    mm_gI h_3 a0 4 5 fun v_5 =>
    (mm_br (v_5 = 1) (
    (mm_br (v_4 = 0) (
      mm_run E cl mm_m71 n 16 [some (.ref a0), some (.int x1), some (.int (x2 + 1)), some (.int v_4)] [] h_3) (
      some (.inl (some (.int x2)), h_3)))) (
    (mm_br (v_5 = 2) (
    mm_run E cl mm_m71 n 16 [some (.ref a0), some (.int (x1 + v_4)), some (.int (x2 + 1)), some (.int v_4)] [] h_3) (
    (mm_br (v_5 = 3) (
    (mm_br (x2 = 0) (
      mm_run E cl mm_m71 n 16 [some (.ref a0), some (.int v_4), some (.int (x2 + 1)), some (.int v_4)] [] h_3) (
      mm_run E cl mm_m71 n 16 [some (.ref a0), some (.int (mm_mx x1 v_4)), some (.int (x2 + 1)), some (.int v_4)] [] h_3))) (
    (mm_br (v_5 = 4) (
    (mm_br (x2 = 0) (
      mm_run E cl mm_m71 n 16 [some (.ref a0), some (.int v_4), some (.int (x2 + 1)), some (.int v_4)] [] h_3) (
      mm_run E cl mm_m71 n 16 [some (.ref a0), some (.int (mm_mn x1 v_4)), some (.int (x2 + 1)), some (.int v_4)] [] h_3))) (
    mm_run E cl mm_m71 n 16 [some (.ref a0), some (.int (x1 + v_4)), some (.int (x2 + 1)), some (.int v_4)] [] h_3)))))))))) := rfl
-- Que.workOut
set_option maxRecDepth 20000 in
set_option maxHeartbeats 4000000 in
theorem mm_e72_0 (E : mm_E) (cl : mm_F) (n : Nat) (a0 : Nat) (x1 : Int32) (h : mm_H) :
  mm_run E cl mm_m72 (n + 1) 0 [some (.ref a0), some (.int x1), none, none, none] [] h =
  mm_run E cl mm_m72 n 4 [some (.ref a0), some (.int x1), some (.int 0), some (.int 0), none] [] h := rfl
-- Que.workOut
set_option maxRecDepth 20000 in
set_option maxHeartbeats 4000000 in
theorem mm_e72_4 (E : mm_E) (cl : mm_F) (n : Nat) (a0 : Nat) (x1 : Int32) (x2 : Int32) (x3 : Int32) (o4 : Option Value) (h : mm_H) :
  mm_run E cl mm_m72 (n + 1) 4 [some (.ref a0), some (.int x1), some (.int x2), some (.int x3), o4] [] h =
  mm_gI h a0 4 4 fun v_1 =>
  (mm_br (v_1 ≤ x3) (
  mm_gR h a0 4 3 fun p_2 =>
    mm_rI E h p_2 0 fun v_3 =>
    some (.inl (some (.int v_3)), h)) (
  mm_gR h a0 4 2 fun p_4 =>
    mm_rI E h p_4 x3 fun v_5 =>
    (mm_br (v_5 = 36) (
    (mm_br (x2 ≤ 0) (
      mm_run E cl mm_m72 n 52 [some (.ref a0), some (.int x1), some (.int x2), some (.int x3), some (.int v_5)] [] h) (
      mm_gR h a0 4 3 fun p_6 =>
        mm_gR h a0 4 3 fun p_7 =>
        mm_rI E h p_7 (x2 - 1) fun v_8 =>
        mm_wI h p_6 (x2 - 1) (1 - v_8) fun h_9 =>
        mm_run E cl mm_m72 n 4 [some (.ref a0), some (.int x1), some (.int x2), some (.int (x3 + 1)), some (.int v_5)] [] h_9))) (
    mm_run E cl mm_m72 n 52 [some (.ref a0), some (.int x1), some (.int x2), some (.int x3), some (.int v_5)] [] h)))) := rfl
-- Que.workOut
set_option maxRecDepth 20000 in
set_option maxHeartbeats 4000000 in
theorem mm_e72_52 (E : mm_E) (cl : mm_F) (n : Nat) (a0 : Nat) (x1 : Int32) (x2 : Int32) (x3 : Int32) (x4 : Int32) (h : mm_H) :
  mm_run E cl mm_m72 (n + 1) 52 [some (.ref a0), some (.int x1), some (.int x2), some (.int x3), some (.int x4)] [] h =
  (mm_br (x4 < 30) (
  mm_run E cl mm_m72 n 104 [some (.ref a0), some (.int x1), some (.int x2), some (.int x3), some (.int x4)] [] h) (
  (mm_br (100 ≤ x4) (
    mm_run E cl mm_m72 n 104 [some (.ref a0), some (.int x1), some (.int x2), some (.int x3), some (.int x4)] [] h) (
    (mm_br (x2 ≤ 1) (
      mm_run E cl mm_m72 n 104 [some (.ref a0), some (.int x1), some (.int x2), some (.int x3), some (.int x4)] [] h) (
      mm_gR h a0 4 3 fun p_1 =>
        mm_gR h a0 4 3 fun p_2 =>
        mm_rI E h p_2 ((x2 + (-1)) - 1) fun v_3 =>
        mm_gR h a0 4 3 fun p_4 =>
        mm_rI E h p_4 (x2 + (-1)) fun v_5 =>
        mm_cI [] (cl 73 [.int x4, .int v_3, .int v_5] h) fun v_7 h_6 =>
        mm_wI h_6 p_1 ((x2 + (-1)) - 1) v_7 fun h_8 =>
        mm_run E cl mm_m72 n 4 [some (.ref a0), some (.int x1), some (.int (x2 + (-1))), some (.int (x3 + 1)), some (.int x4)] [] h_8)))))) := rfl
-- Que.workOut
set_option maxRecDepth 20000 in
set_option maxHeartbeats 4000000 in
theorem mm_e72_104 (E : mm_E) (cl : mm_F) (n : Nat) (a0 : Nat) (x1 : Int32) (x2 : Int32) (x3 : Int32) (x4 : Int32) (h : mm_H) :
  mm_run E cl mm_m72 (n + 1) 104 [some (.ref a0), some (.int x1), some (.int x2), some (.int x3), some (.int x4)] [] h =
  mm_gR h a0 4 3 fun p_1 =>
  mm_ln E h p_1 fun v_2 =>
  (mm_br (v_2 ≤ x2) (
  mm_run E cl mm_m72 n 4 [some (.ref a0), some (.int x1), some (.int x2), some (.int (x3 + 1)), some (.int x4)] [] h) (
  mm_gR h a0 4 3 fun p_3 =>
    (mm_br (x4 < 100) (
    mm_cI [] (cl 74 [.ref a0, .int x1, .int x4] h) fun v_5 h_4 =>
      mm_wI h_4 p_3 x2 v_5 fun h_6 =>
      mm_run E cl mm_m72 n 4 [some (.ref a0), some (.int x1), some (.int (x2 + 1)), some (.int (x3 + 1)), some (.int x4)] [] h_6) (
    mm_wI h p_3 x2 (x4 - 100) fun h_7 =>
      mm_run E cl mm_m72 n 4 [some (.ref a0), some (.int x1), some (.int (x2 + 1)), some (.int (x3 + 1)), some (.int x4)] [] h_7)))) := rfl
-- Que.joined
set_option maxRecDepth 20000 in
set_option maxHeartbeats 4000000 in
theorem mm_e73_0 (E : mm_E) (cl : mm_F) (n : Nat) (x0 : Int32) (x1 : Int32) (x2 : Int32) (h : mm_H) :
  mm_run E cl mm_m73 (n + 1) 0 [some (.int x0), some (.int x1), some (.int x2)] [] h =
  (mm_br (x0 = 30) (
  some (.inl (some (.int (x1 * x2))), h)) (
  (mm_br (x0 = 31) (
  some (.inl (some (.int (x1 + x2))), h)) (
  (mm_br (x0 = 32) (
  some (.inl (some (.int (x1 - x2))), h)) (
  (mm_br (x0 = 33) (
  (mm_br (x2 ≤ x1) (
    some (.inl (some (.int 0)), h)) (
    some (.inl (some (.int 1)), h)))) (
  (mm_br (x0 = 34) (
  (mm_br (x1 = x2) (
    some (.inl (some (.int 1)), h)) (
    some (.inl (some (.int 0)), h)))) (
  (mm_br (x0 = 35) (
  (mm_br (x1 ≤ x2) (
    some (.inl (some (.int 0)), h)) (
    some (.inl (some (.int 1)), h)))) (
  (mm_br (x0 = 36) (
  some (.inl (some (.int (x1 ||| x2))), h)) (
  (mm_br (x0 = 37) (
  some (.inl (some (.int (x1 &&& x2))), h)) (
  some (.inl (some (.int (x1 ||| x2))), h))))))))))))))))) := rfl
-- Que.valueOf
set_option maxRecDepth 20000 in
set_option maxHeartbeats 4000000 in
theorem mm_e74_0 (E : mm_E) (cl : mm_F) (n : Nat) (a0 : Nat) (x1 : Int32) (x2 : Int32) (h : mm_H) :
  mm_run E cl mm_m74 (n + 1) 0 [some (.ref a0), some (.int x1), some (.int x2)] [] h =
  (mm_br (x2 = 0) (
  some (.inl (some (.int x1)), h)) (
  (mm_br (x2 = 1) (
  (mm_br (8 ≤ x2) (
    mm_gR h a0 4 1 fun p_62 =>
      mm_cI [] (cl 52 [.ref p_62, .int x1, .int (x2 - 13)] h) fun v_64 h_63 =>
      some (.inl (some (.int v_64)), h_63)) (
    mm_gR h a0 4 1 fun p_65 =>
      mm_cI [] (cl 30 [.ref p_65, .int x1, .int (x2 - 1)] h) fun v_67 h_66 =>
      some (.inl (some (.int v_67)), h_66)))) (
  (mm_br (x2 = 2) (
  (mm_br (8 ≤ x2) (
    mm_gR h a0 4 1 fun p_56 =>
      mm_cI [] (cl 52 [.ref p_56, .int x1, .int (x2 - 13)] h) fun v_58 h_57 =>
      some (.inl (some (.int v_58)), h_57)) (
    mm_gR h a0 4 1 fun p_59 =>
      mm_cI [] (cl 30 [.ref p_59, .int x1, .int (x2 - 1)] h) fun v_61 h_60 =>
      some (.inl (some (.int v_61)), h_60)))) (
  (mm_br (x2 = 3) (
  (mm_br (8 ≤ x2) (
    mm_gR h a0 4 1 fun p_50 =>
      mm_cI [] (cl 52 [.ref p_50, .int x1, .int (x2 - 13)] h) fun v_52 h_51 =>
      some (.inl (some (.int v_52)), h_51)) (
    mm_gR h a0 4 1 fun p_53 =>
      mm_cI [] (cl 30 [.ref p_53, .int x1, .int (x2 - 1)] h) fun v_55 h_54 =>
      some (.inl (some (.int v_55)), h_54)))) (
  (mm_br (x2 = 4) (
  (mm_br (8 ≤ x2) (
    mm_gR h a0 4 1 fun p_44 =>
      mm_cI [] (cl 52 [.ref p_44, .int x1, .int (x2 - 13)] h) fun v_46 h_45 =>
      some (.inl (some (.int v_46)), h_45)) (
    mm_gR h a0 4 1 fun p_47 =>
      mm_cI [] (cl 30 [.ref p_47, .int x1, .int (x2 - 1)] h) fun v_49 h_48 =>
      some (.inl (some (.int v_49)), h_48)))) (
  (mm_br (x2 = 5) (
  (mm_br (8 ≤ x2) (
    mm_gR h a0 4 1 fun p_38 =>
      mm_cI [] (cl 52 [.ref p_38, .int x1, .int (x2 - 13)] h) fun v_40 h_39 =>
      some (.inl (some (.int v_40)), h_39)) (
    mm_gR h a0 4 1 fun p_41 =>
      mm_cI [] (cl 30 [.ref p_41, .int x1, .int (x2 - 1)] h) fun v_43 h_42 =>
      some (.inl (some (.int v_43)), h_42)))) (
  (mm_br (x2 = 6) (
  (mm_br (8 ≤ x2) (
    mm_gR h a0 4 1 fun p_32 =>
      mm_cI [] (cl 52 [.ref p_32, .int x1, .int (x2 - 13)] h) fun v_34 h_33 =>
      some (.inl (some (.int v_34)), h_33)) (
    mm_gR h a0 4 1 fun p_35 =>
      mm_cI [] (cl 30 [.ref p_35, .int x1, .int (x2 - 1)] h) fun v_37 h_36 =>
      some (.inl (some (.int v_37)), h_36)))) (
  (mm_br (x2 = 7) (
  (mm_br (8 ≤ x2) (
    mm_gR h a0 4 1 fun p_26 =>
      mm_cI [] (cl 52 [.ref p_26, .int x1, .int (x2 - 13)] h) fun v_28 h_27 =>
      some (.inl (some (.int v_28)), h_27)) (
    mm_gR h a0 4 1 fun p_29 =>
      mm_cI [] (cl 30 [.ref p_29, .int x1, .int (x2 - 1)] h) fun v_31 h_30 =>
      some (.inl (some (.int v_31)), h_30)))) (
  (mm_br (x2 = 8) (
  mm_gR h a0 4 1 fun p_23 =>
    mm_gR h p_23 3 7 fun p_24 =>
    mm_rI E h p_24 x1 fun v_25 =>
    some (.inl (some (.int v_25)), h)) (
  (mm_br (x2 = 9) (
  mm_gR h a0 4 1 fun p_20 =>
    mm_gR h p_20 3 8 fun p_21 =>
    mm_rI E h p_21 x1 fun v_22 =>
    some (.inl (some (.int v_22)), h)) (
  (mm_br (x2 = 10) (
  mm_gR h a0 4 1 fun p_17 =>
    mm_gR h p_17 3 9 fun p_18 =>
    mm_rI E h p_18 x1 fun v_19 =>
    some (.inl (some (.int v_19)), h)) (
  (mm_br (x2 = 11) (
  mm_gR h a0 4 1 fun p_12 =>
    mm_gR h p_12 3 2 fun p_13 =>
    mm_rI E h p_13 x1 fun v_14 =>
    mm_cI [] (cl 283 [.int v_14] h) fun v_16 h_15 =>
    some (.inl (some (.int v_16)), h_15)) (
  (mm_br (x2 = 12) (
  mm_gR h a0 4 1 fun p_7 =>
    mm_gR h p_7 3 3 fun p_8 =>
    mm_rI E h p_8 x1 fun v_9 =>
    mm_cI [] (cl 283 [.int v_9] h) fun v_11 h_10 =>
    some (.inl (some (.int v_11)), h_10)) (
  (mm_br (8 ≤ x2) (
  mm_gR h a0 4 1 fun p_1 =>
    mm_cI [] (cl 52 [.ref p_1, .int x1, .int (x2 - 13)] h) fun v_3 h_2 =>
    some (.inl (some (.int v_3)), h_2)) (
  mm_gR h a0 4 1 fun p_4 =>
    mm_cI [] (cl 30 [.ref p_4, .int x1, .int (x2 - 1)] h) fun v_6 h_5 =>
    some (.inl (some (.int v_6)), h_5))))))))))))))))))))))))))))) := rfl
-- Row.init
set_option maxRecDepth 20000 in
set_option maxHeartbeats 4000000 in
theorem mm_e75_0 (E : mm_E) (cl : mm_F) (n : Nat) (a0 : Nat) (x1 : Int32) (h : mm_H) :
  mm_run E cl mm_m75 (n + 1) 0 [some (.ref a0), some (.int x1)] [] h =
  mm_nn x1 fun k_3 => mm_al h (.inr (.inr (.inl (k_3, fun _ => 0)))) k_3 fun p_1 h_2 =>
  mm_pF h_2 a0 5 0 (.ref p_1) fun h_4 =>
  mm_nn x1 fun k_7 => mm_al h_4 (.inr (.inr (.inl (k_7, fun _ => 0)))) k_7 fun p_5 h_6 =>
  mm_pF h_6 a0 5 1 (.ref p_5) fun h_8 =>
  some (.inl none, h_8) := rfl
-- Row.put
set_option maxRecDepth 20000 in
set_option maxHeartbeats 4000000 in
theorem mm_e76_0 (E : mm_E) (cl : mm_F) (n : Nat) (a0 : Nat) (x1 : Int32) (y2 : Int64) (y4 : Int64) (h : mm_H) :
  mm_run E cl mm_m76 (n + 1) 0 [some (.ref a0), some (.int x1), some (.long y2), none, some (.long y4), none, none] [] h =
  (mm_br (0 ≤ (lg_cmp y2 288230376151711744)) (
  mm_gR h a0 5 0 fun p_1 =>
    (mm_br ((0 : Int32) = 0) (
    mm_run E cl mm_m76 n 32 [some (.ref a0), some (.int x1), some (.long y2), none, some (.long y4), none, some (.int 0)] [.long 288230376151711744, .int x1, .ref p_1] h) (
    mm_run E cl mm_m76 n 32 [some (.ref a0), some (.int x1), some (.long y2), none, some (.long y4), none, some (.int 0)] [.long y2, .int x1, .ref p_1] h))) (
  mm_gR h a0 5 0 fun p_2 =>
    (mm_br ((1 : Int32) = 0) (
    mm_run E cl mm_m76 n 32 [some (.ref a0), some (.int x1), some (.long y2), none, some (.long y4), none, some (.int 1)] [.long 288230376151711744, .int x1, .ref p_2] h) (
    mm_run E cl mm_m76 n 32 [some (.ref a0), some (.int x1), some (.long y2), none, some (.long y4), none, some (.int 1)] [.long y2, .int x1, .ref p_2] h)))) := rfl
-- Row.put
set_option maxRecDepth 20000 in
set_option maxHeartbeats 4000000 in
theorem mm_e76_32 (E : mm_E) (cl : mm_F) (n : Nat) (a0 : Nat) (x1 : Int32) (y2 : Int64) (y4 : Int64) (x6 : Int32) (b0 : Nat) (s1 : Int32) (t2 : Int64) (h : mm_H) :
  mm_run E cl mm_m76 (n + 1) 32 [some (.ref a0), some (.int x1), some (.long y2), none, some (.long y4), none, some (.int x6)] [.long t2, .int s1, .ref b0] h =
  mm_wJ h b0 s1 t2 fun h_1 =>
  mm_gR h_1 a0 5 1 fun p_2 =>
  (mm_br (x6 = 0) (
  mm_wJ h_1 p_2 x1 0 fun h_3 =>
    some (.inl none, h_3)) (
  mm_wJ h_1 p_2 x1 y4 fun h_4 =>
    some (.inl none, h_4))) := rfl
-- Row.lower
set_option maxRecDepth 20000 in
set_option maxHeartbeats 4000000 in
theorem mm_e77_0 (E : mm_E) (cl : mm_F) (n : Nat) (a0 : Nat) (x1 : Int32) (y2 : Int64) (y4 : Int64) (h : mm_H) :
  mm_run E cl mm_m77 (n + 1) 0 [some (.ref a0), some (.int x1), some (.long y2), none, some (.long y4), none] [] h =
  mm_gR h a0 5 0 fun p_1 =>
  mm_rJ h p_1 x1 fun w_2 =>
  (mm_br ((lg_cmp y2 w_2) < 0) (
  mm_gR h a0 5 0 fun p_3 =>
    mm_wJ h p_3 x1 y2 fun h_4 =>
    mm_gR h_4 a0 5 1 fun p_5 =>
    mm_wJ h_4 p_5 x1 y4 fun h_6 =>
    some (.inl none, h_6)) (
  mm_gR h a0 5 0 fun p_7 =>
    mm_rJ h p_7 x1 fun w_8 =>
    (mm_br ((lg_cmp y2 w_8) = 0) (
    mm_gR h a0 5 1 fun p_9 =>
      mm_rJ h p_9 x1 fun w_10 =>
      (mm_br (0 ≤ (lg_cmp y4 w_10)) (
      some (.inl none, h)) (
      mm_gR h a0 5 0 fun p_11 =>
        mm_wJ h p_11 x1 y2 fun h_12 =>
        mm_gR h_12 a0 5 1 fun p_13 =>
        mm_wJ h_12 p_13 x1 y4 fun h_14 =>
        some (.inl none, h_14)))) (
    some (.inl none, h))))) := rfl
-- Tel.init
set_option maxRecDepth 20000 in
set_option maxHeartbeats 4000000 in
theorem mm_e78_0 (E : mm_E) (cl : mm_F) (n : Nat) (a0 : Nat) (a1 : Nat) (a2 : Nat) (h : mm_H) :
  mm_run E cl mm_m78 (n + 1) 0 [some (.ref a0), some (.ref a1), some (.ref a2)] [] h =
  mm_pF h a0 6 2 (.int 0) fun h_1 =>
  mm_pF h_1 a0 6 0 (.ref a1) fun h_2 =>
  mm_pF h_2 a0 6 1 (.ref a2) fun h_3 =>
  some (.inl none, h_3) := rfl
-- Tel.read
set_option maxRecDepth 20000 in
set_option maxHeartbeats 4000000 in
theorem mm_e79_0 (E : mm_E) (cl : mm_F) (n : Nat) (a0 : Nat) (x1 : Int32) (h : mm_H) :
  mm_run E cl mm_m79 (n + 1) 0 [some (.ref a0), some (.int x1), none] [] h =
  mm_pF h a0 6 2 (.int 0) fun h_1 =>
  mm_gR h_1 a0 6 1 fun p_2 =>
  mm_cV [] (cl 33 [.ref p_2] h_1) fun h_3 =>
  mm_gR h_3 a0 6 0 fun p_4 =>
  mm_cV [] (cl 94 [.ref p_4, .int x1] h_3) fun h_5 =>
  mm_run E cl mm_m79 n 22 [some (.ref a0), some (.int x1), some (.int 0)] [] h_5 := rfl
-- Tel.read
set_option maxRecDepth 20000 in
set_option maxHeartbeats 4000000 in
theorem mm_e79_22 (E : mm_E) (cl : mm_F) (n : Nat) (a0 : Nat) (x1 : Int32) (x2 : Int32) (h : mm_H) :
  mm_run E cl mm_m79 (n + 1) 22 [some (.ref a0), some (.int x1), some (.int x2)] [] h =
  (mm_br (400 ≤ x2) (
  mm_gR h a0 6 1 fun p_1 =>
    mm_cV [] (cl 43 [.ref p_1] h) fun h_2 =>
    mm_gI h_2 a0 6 2 fun v_3 =>
    some (.inl (some (.int v_3)), h_2)) (
  mm_gI h a0 6 2 fun v_4 =>
    (mm_br (v_4 = 0) (
    mm_gR h a0 6 0 fun p_8 =>
      mm_gI h p_8 7 5 fun v_9 =>
      (mm_br (v_9 = 0) (
      mm_gR h a0 6 1 fun p_10 =>
        mm_cV [] (cl 43 [.ref p_10] h) fun h_11 =>
        mm_gI h_11 a0 6 2 fun v_12 =>
        some (.inl (some (.int v_12)), h_11)) (
      mm_cI [] (cl 80 [.ref a0] h) fun v_14 h_13 =>
        (mm_br (v_14 = 0) (
        mm_run E cl mm_m79 n 22 [some (.ref a0), some (.int x1), some (.int (x2 + 1))] [] h_13) (
        mm_cI [] (cl 81 [.ref a0] h_13) fun v_16 h_15 =>
          (mm_br (v_16 = 0) (
          mm_run E cl mm_m79 n 22 [some (.ref a0), some (.int x1), some (.int (x2 + 1))] [] h_15) (
          mm_gR h_15 a0 6 0 fun p_17 =>
            mm_cV [] (cl 95 [.ref p_17] h_15) fun h_18 =>
            mm_run E cl mm_m79 n 22 [some (.ref a0), some (.int x1), some (.int (x2 + 1))] [] h_18))))))) (
    mm_gR h a0 6 1 fun p_5 =>
      mm_cV [] (cl 43 [.ref p_5] h) fun h_6 =>
      mm_gI h_6 a0 6 2 fun v_7 =>
      some (.inl (some (.int v_7)), h_6))))) := rfl
-- Tel.readLine
set_option maxRecDepth 20000 in
set_option maxHeartbeats 4000000 in
theorem mm_e80_0 (E : mm_E) (cl : mm_F) (n : Nat) (a0 : Nat) (h : mm_H) :
  mm_run E cl mm_m80 (n + 1) 0 [some (.ref a0)] [] h =
  mm_gR h a0 6 0 fun p_1 =>
  mm_cI [] (cl 98 [.ref p_1, .ref (E.2.2.1 1)] h) fun v_3 h_2 =>
  (mm_br (v_3 = 0) (
  mm_cI [] (cl 82 [.ref a0] h_2) fun v_11 h_10 =>
    (mm_bz v_11 (some (.inl (some (.int v_11)), h_10)))) (
  (mm_br (v_3 = 1) (
  mm_cI [] (cl 86 [.ref a0] h_2) fun v_9 h_8 =>
    (mm_bz v_9 (some (.inl (some (.int v_9)), h_8)))) (
  (mm_br (v_3 = 2) (
  mm_cI [] (cl 85 [.ref a0] h_2) fun v_7 h_6 =>
    (mm_bz v_7 (some (.inl (some (.int v_7)), h_6)))) (
  mm_cI [] (cl 91 [.ref a0, .int 1] h_2) fun v_5 h_4 =>
  (mm_bz v_5 (some (.inl (some (.int v_5)), h_4))))))))) := rfl
-- Tel.endLine
set_option maxRecDepth 20000 in
set_option maxHeartbeats 4000000 in
theorem mm_e81_0 (E : mm_E) (cl : mm_F) (n : Nat) (a0 : Nat) (h : mm_H) :
  mm_run E cl mm_m81 (n + 1) 0 [some (.ref a0)] [] h =
  mm_gR h a0 6 0 fun p_1 =>
  mm_cI [] (cl 96 [.ref p_1, .int 59] h) fun v_3 h_2 =>
  (mm_br (v_3 = 0) (
  mm_cI [] (cl 91 [.ref a0, .int 1] h_2) fun v_5 h_4 =>
    (mm_br (v_5 = 0) (
    (mm_bz 0 (some (.inl (some (.int 0)), h_4)))) (
    (mm_bz 1 (some (.inl (some (.int 1)), h_4)))))) (
  (mm_bz 1 (some (.inl (some (.int 1)), h_2))))) := rfl
-- Tel.readStage
set_option maxRecDepth 20000 in
set_option maxHeartbeats 4000000 in
theorem mm_e82_0 (E : mm_E) (cl : mm_F) (n : Nat) (a0 : Nat) (h : mm_H) :
  mm_run E cl mm_m82 (n + 1) 0 [some (.ref a0)] [] h =
  mm_gR h a0 6 1 fun p_1 =>
  mm_gI h p_1 3 10 fun v_2 =>
  (mm_br (v_2 < 12) (
  mm_gR h a0 6 0 fun p_3 =>
    mm_cV [] (cl 95 [.ref p_3] h) fun h_4 =>
    mm_cI [] (cl 83 [.ref a0] h_4) fun v_6 h_5 =>
    (mm_br (v_6 = 0) (
    (mm_bz 0 (some (.inl (some (.int 0)), h_5)))) (
    mm_cI [] (cl 84 [.ref a0, .int 0] h_5) fun v_8 h_7 =>
      (mm_br (v_8 = 0) (
      (mm_bz 0 (some (.inl (some (.int 0)), h_7)))) (
      mm_cI [] (cl 84 [.ref a0, .int 1] h_7) fun v_10 h_9 =>
        (mm_br (v_10 = 0) (
        (mm_bz 0 (some (.inl (some (.int 0)), h_9)))) (
        mm_gR h_9 a0 6 0 fun p_11 =>
          mm_cI [] (cl 97 [.ref p_11, .ref (E.2.2.1 3)] h_9) fun v_13 h_12 =>
          (mm_br (v_13 = 0) (
          mm_run E cl mm_m82 n 68 [some (.ref a0)] [] h_12) (
          mm_cI [] (cl 84 [.ref a0, .int 2] h_12) fun v_15 h_14 =>
            (mm_br (v_15 = 0) (
            (mm_bz 0 (some (.inl (some (.int 0)), h_14)))) (
            mm_run E cl mm_m82 n 68 [some (.ref a0)] [] h_14))))))))))) (
  mm_cI [] (cl 91 [.ref a0, .int 5] h) fun v_17 h_16 =>
    (mm_bz v_17 (some (.inl (some (.int v_17)), h_16))))) := rfl
-- Tel.readStage
set_option maxRecDepth 20000 in
set_option maxHeartbeats 4000000 in
theorem mm_e82_68 (E : mm_E) (cl : mm_F) (n : Nat) (a0 : Nat) (h : mm_H) :
  mm_run E cl mm_m82 (n + 1) 68 [some (.ref a0)] [] h =
  mm_gR h a0 6 0 fun p_1 =>
  mm_cI [] (cl 97 [.ref p_1, .ref (E.2.2.1 4)] h) fun v_3 h_2 =>
  (mm_br (v_3 = 0) (
  mm_gR h_2 a0 6 0 fun p_4 =>
    mm_cI [] (cl 97 [.ref p_4, .ref (E.2.2.1 5)] h_2) fun v_6 h_5 =>
    (mm_br (v_6 = 0) (
    (mm_bz 1 (some (.inl (some (.int 1)), h_5)))) (
    mm_cI [] (cl 84 [.ref a0, .int 5] h_5) fun v_8 h_7 =>
      (mm_br (v_8 = 0) (
      (mm_bz 0 (some (.inl (some (.int 0)), h_7)))) (
      (mm_bz 1 (some (.inl (some (.int 1)), h_7)))))))) (
  mm_cI [] (cl 84 [.ref a0, .int 3] h_2) fun v_10 h_9 =>
    (mm_br (v_10 = 0) (
    (mm_bz 0 (some (.inl (some (.int 0)), h_9)))) (
    mm_cI [] (cl 84 [.ref a0, .int 4] h_9) fun v_12 h_11 =>
      (mm_br (v_12 = 0) (
      (mm_bz 0 (some (.inl (some (.int 0)), h_11)))) (
      mm_gR h_11 a0 6 0 fun p_13 =>
        mm_cI [] (cl 97 [.ref p_13, .ref (E.2.2.1 5)] h_11) fun v_15 h_14 =>
        (mm_br (v_15 = 0) (
        (mm_bz 1 (some (.inl (some (.int 1)), h_14)))) (
        mm_cI [] (cl 84 [.ref a0, .int 5] h_14) fun v_17 h_16 =>
          (mm_br (v_17 = 0) (
          (mm_bz 0 (some (.inl (some (.int 0)), h_16)))) (
          (mm_bz 1 (some (.inl (some (.int 1)), h_16))))))))))))) := rfl
-- Tel.readNewName
set_option maxRecDepth 20000 in
set_option maxHeartbeats 4000000 in
theorem mm_e83_0 (E : mm_E) (cl : mm_F) (n : Nat) (a0 : Nat) (h : mm_H) :
  mm_run E cl mm_m83 (n + 1) 0 [some (.ref a0), none, none] [] h =
  mm_cI [] (cl 88 [.ref a0] h) fun v_2 h_1 =>
  (mm_br (v_2 = 0) (
  mm_cI [] (cl 91 [.ref a0, .int 1] h_1) fun v_11 h_10 =>
    (mm_bz v_11 (some (.inl (some (.int v_11)), h_10)))) (
  mm_cI [] (cl 89 [.ref a0] h_1) fun v_4 h_3 =>
    (mm_br (v_4 = (-1)) (
    mm_gR h_3 a0 6 1 fun p_5 =>
      mm_cI [] (cl 36 [.ref p_5] h_3) fun v_7 h_6 =>
      mm_run E cl mm_m83 n 37 [some (.ref a0), some (.int v_7), some (.int 0)] [] h_6) (
    mm_cI [] (cl 91 [.ref a0, .int 3] h_3) fun v_9 h_8 =>
      (mm_bz v_9 (some (.inl (some (.int v_9)), h_8))))))) := rfl
-- Tel.readNewName
set_option maxRecDepth 20000 in
set_option maxHeartbeats 4000000 in
theorem mm_e83_37 (E : mm_E) (cl : mm_F) (n : Nat) (a0 : Nat) (x1 : Int32) (x2 : Int32) (h : mm_H) :
  mm_run E cl mm_m83 (n + 1) 37 [some (.ref a0), some (.int x1), some (.int x2)] [] h =
  (mm_br (6 ≤ x2) (
  mm_gR h a0 6 0 fun p_1 =>
    mm_cV [] (cl 95 [.ref p_1] h) fun h_2 =>
    (mm_bz 1 (some (.inl (some (.int 1)), h_2)))) (
  (mm_br (x1 = (-1)) (
    mm_gR h a0 6 0 fun p_3 =>
      mm_cV [] (cl 95 [.ref p_3] h) fun h_4 =>
      (mm_bz 1 (some (.inl (some (.int 1)), h_4)))) (
    mm_gR h a0 6 1 fun p_5 =>
      mm_gR h p_5 3 1 fun p_6 =>
      mm_gR h a0 6 0 fun p_7 =>
      mm_gI h p_7 7 3 fun v_8 =>
      mm_cI [] (cl 90 [.ref a0, .int (v_8 + x2)] h) fun v_10 h_9 =>
      mm_wI h_9 p_6 ((x1 * 6) + x2) v_10 fun h_11 =>
      mm_run E cl mm_m83 n 37 [some (.ref a0), some (.int x1), some (.int (x2 + 1))] [] h_11)))) := rfl
-- Tel.readTold
set_option maxRecDepth 20000 in
set_option maxHeartbeats 4000000 in
theorem mm_e84_0 (E : mm_E) (cl : mm_F) (n : Nat) (a0 : Nat) (x1 : Int32) (h : mm_H) :
  mm_run E cl mm_m84 (n + 1) 0 [some (.ref a0), some (.int x1)] [] h =
  mm_gR h a0 6 0 fun p_1 =>
  mm_gI h p_1 7 5 fun v_2 =>
  (mm_br (v_2 = 2) (
  mm_gR h a0 6 0 fun p_3 =>
    mm_cI [] (cl 99 [.ref p_3] h) fun v_5 h_4 =>
    mm_cI [] (cl 137 [.int x1, .int v_5] h_4) fun v_7 h_6 =>
    (mm_br (v_7 = 0) (
    mm_cI [] (cl 91 [.ref a0, .int 2] h_6) fun v_18 h_17 =>
      (mm_bz v_18 (some (.inl (some (.int v_18)), h_17)))) (
    mm_gR h_6 a0 6 1 fun p_8 =>
      mm_gR h_6 a0 6 1 fun p_9 =>
      mm_gI h_6 p_9 3 10 fun v_10 =>
      mm_gR h_6 a0 6 0 fun p_11 =>
      mm_cI [] (cl 99 [.ref p_11] h_6) fun v_13 h_12 =>
      mm_cV [] (cl 31 [.ref p_8, .int (v_10 - 1), .int x1, .int v_13] h_12) fun h_14 =>
      mm_gR h_14 a0 6 0 fun p_15 =>
      mm_cV [] (cl 95 [.ref p_15] h_14) fun h_16 =>
      (mm_bz 1 (some (.inl (some (.int 1)), h_16)))))) (
  mm_cI [] (cl 91 [.ref a0, .int 1] h) fun v_20 h_19 =>
    (mm_bz v_20 (some (.inl (some (.int v_20)), h_19))))) := rfl
-- Tel.readZ
set_option maxRecDepth 20000 in
set_option maxHeartbeats 4000000 in
theorem mm_e85_0 (E : mm_E) (cl : mm_F) (n : Nat) (a0 : Nat) (h : mm_H) :
  mm_run E cl mm_m85 (n + 1) 0 [some (.ref a0)] [] h =
  mm_gR h a0 6 0 fun p_1 =>
  mm_cV [] (cl 95 [.ref p_1] h) fun h_2 =>
  mm_gR h_2 a0 6 0 fun p_3 =>
  mm_gI h_2 p_3 7 5 fun v_4 =>
  (mm_br (v_4 = 2) (
  mm_gR h_2 a0 6 0 fun p_5 =>
    mm_cI [] (cl 99 [.ref p_5] h_2) fun v_7 h_6 =>
    (mm_br (v_7 ≤ 400) (
    mm_gR h_6 a0 6 1 fun p_8 =>
      mm_gR h_6 a0 6 0 fun p_9 =>
      mm_cI [] (cl 99 [.ref p_9] h_6) fun v_11 h_10 =>
      mm_pF h_10 p_8 3 11 (.int v_11) fun h_12 =>
      mm_gR h_12 a0 6 0 fun p_13 =>
      mm_cV [] (cl 95 [.ref p_13] h_12) fun h_14 =>
      (mm_bz 1 (some (.inl (some (.int 1)), h_14)))) (
    mm_cI [] (cl 91 [.ref a0, .int 2] h_6) fun v_16 h_15 =>
      (mm_bz v_16 (some (.inl (some (.int v_16)), h_15)))))) (
  mm_cI [] (cl 91 [.ref a0, .int 1] h_2) fun v_18 h_17 =>
    (mm_bz v_18 (some (.inl (some (.int v_18)), h_17))))) := rfl
