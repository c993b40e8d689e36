/-! EQUATIONS of the runs (by program: wip/whole/eqgen.py) -/
-- Tel.readFrom
set_option maxRecDepth 20000 in
set_option maxHeartbeats 4000000 in
theorem mm_e86_0 (E : mm_E) (cl : mm_F) (n : Nat) (a0 : Nat) (h : mm_H) :
  mm_run E cl mm_m86 (n + 1) 0 [some (.ref a0), none, none] [] h =
  mm_gR h a0 6 0 fun p_1 =>
  mm_cV [] (cl 95 [.ref p_1] h) fun h_2 =>
  mm_cI [] (cl 87 [.ref a0] h_2) fun v_4 h_3 =>
  (mm_br (v_4 = 0) (
  (mm_bz 0 (some (.inl (some (.int 0)), h_3)))) (
  mm_cI [] (cl 89 [.ref a0] h_3) fun v_6 h_5 =>
    mm_gR h_5 a0 6 0 fun p_7 =>
    mm_cV [] (cl 95 [.ref p_7] h_5) fun h_8 =>
    mm_cI [] (cl 87 [.ref a0] h_8) fun v_10 h_9 =>
    (mm_br (v_10 = 0) (
    (mm_bz 0 (some (.inl (some (.int 0)), h_9)))) (
    mm_cI [] (cl 89 [.ref a0] h_9) fun v_12 h_11 =>
      mm_gR h_11 a0 6 1 fun p_13 =>
      mm_cI [] (cl 40 [.ref p_13, .int v_6, .int v_12] h_11) fun v_15 h_14 =>
      (mm_br (v_15 = 0) (
      mm_gR h_14 a0 6 1 fun p_16 =>
        mm_cV [] (cl 38 [.ref p_16, .int v_6, .int v_12] h_14) fun h_17 =>
        mm_gR h_17 a0 6 0 fun p_18 =>
        mm_cV [] (cl 95 [.ref p_18] h_17) fun h_19 =>
        (mm_bz 1 (some (.inl (some (.int 1)), h_19)))) (
      mm_cI [] (cl 91 [.ref a0, .int 4] h_14) fun v_21 h_20 =>
        (mm_bz v_21 (some (.inl (some (.int v_21)), h_20))))))))) := rfl
-- Tel.isToldName
set_option maxRecDepth 20000 in
set_option maxHeartbeats 4000000 in
theorem mm_e87_0 (E : mm_E) (cl : mm_F) (n : Nat) (a0 : Nat) (h : mm_H) :
  mm_run E cl mm_m87 (n + 1) 0 [some (.ref a0)] [] h =
  mm_cI [] (cl 88 [.ref a0] h) fun v_2 h_1 =>
  (mm_br (v_2 = 0) (
  mm_cI [] (cl 91 [.ref a0, .int 1] h_1) fun v_8 h_7 =>
    (mm_bz v_8 (some (.inl (some (.int v_8)), h_7)))) (
  mm_cI [] (cl 89 [.ref a0] h_1) fun v_4 h_3 =>
    (mm_br (v_4 = (-1)) (
    mm_cI [] (cl 91 [.ref a0, .int 3] h_3) fun v_6 h_5 =>
      (mm_br (v_6 = 0) (
      (mm_bz 0 (some (.inl (some (.int 0)), h_5)))) (
      (mm_bz 1 (some (.inl (some (.int 1)), h_5)))))) (
    (mm_bz 1 (some (.inl (some (.int 1)), h_3))))))) := rfl
-- Tel.isName
set_option maxRecDepth 20000 in
set_option maxHeartbeats 4000000 in
theorem mm_e88_0 (E : mm_E) (cl : mm_F) (n : Nat) (a0 : Nat) (h : mm_H) :
  mm_run E cl mm_m88 (n + 1) 0 [some (.ref a0)] [] h =
  mm_gR h a0 6 0 fun p_1 =>
  mm_gI h p_1 7 5 fun v_2 =>
  (mm_br (v_2 = 1) (
  mm_gR h a0 6 0 fun p_3 =>
    mm_gI h p_3 7 4 fun v_4 =>
    mm_gR h a0 6 0 fun p_5 =>
    mm_gI h p_5 7 3 fun v_6 =>
    (mm_br (6 < (v_4 - v_6)) (
    (mm_bz 0 (some (.inl (some (.int 0)), h)))) (
    mm_gR h a0 6 0 fun p_7 =>
      mm_cI [] (cl 98 [.ref p_7, .ref (E.2.2.1 2)] h) fun v_9 h_8 =>
      (mm_br (v_9 = (-1)) (
      (mm_bz 1 (some (.inl (some (.int 1)), h_8)))) (
      (mm_bz 0 (some (.inl (some (.int 0)), h_8)))))))) (
  (mm_bz 0 (some (.inl (some (.int 0)), h))))) := rfl
-- Tel.findName
set_option maxRecDepth 20000 in
set_option maxHeartbeats 4000000 in
theorem mm_e89_0 (E : mm_E) (cl : mm_F) (n : Nat) (a0 : Nat) (h : mm_H) :
  mm_run E cl mm_m89 (n + 1) 0 [some (.ref a0), none, none, none] [] h =
  mm_run E cl mm_m89 n 2 [some (.ref a0), some (.int 0), none, none] [] h := rfl
-- Tel.findName
set_option maxRecDepth 20000 in
set_option maxHeartbeats 4000000 in
theorem mm_e89_2 (E : mm_E) (cl : mm_F) (n : Nat) (a0 : Nat) (x1 : Int32) (o2 : Option Value) (o3 : Option Value) (h : mm_H) :
  mm_run E cl mm_m89 (n + 1) 2 [some (.ref a0), some (.int x1), o2, o3] [] h =
  mm_gR h a0 6 1 fun p_1 =>
  mm_gI h p_1 3 10 fun v_2 =>
  (mm_br (v_2 ≤ x1) (
  some (.inl (some (.int (-1))), h)) (
  mm_run E cl mm_m89 n 17 [some (.ref a0), some (.int x1), some (.int 1), some (.int 0)] [] h)) := rfl
-- Tel.findName
set_option maxRecDepth 20000 in
set_option maxHeartbeats 4000000 in
theorem mm_e89_17 (E : mm_E) (cl : mm_F) (n : Nat) (a0 : Nat) (x1 : Int32) (x2 : Int32) (x3 : Int32) (h : mm_H) :
  mm_run E cl mm_m89 (n + 1) 17 [some (.ref a0), some (.int x1), some (.int x2), some (.int x3)] [] h =
  (mm_br (6 ≤ x3) (
  (mm_br (x2 = 0) (
    mm_run E cl mm_m89 n 2 [some (.ref a0), some (.int (x1 + 1)), some (.int x2), some (.int x3)] [] h) (
    some (.inl (some (.int x1)), h)))) (
  (mm_br (x2 = 0) (
    mm_run E cl mm_m89 n 17 [some (.ref a0), some (.int x1), some (.int 0), some (.int (x3 + 1))] [] h) (
    mm_gR h a0 6 1 fun p_1 =>
      mm_gR h p_1 3 1 fun p_2 =>
      mm_rI E h p_2 ((x1 * 6) + x3) fun v_3 =>
      mm_gR h a0 6 0 fun p_4 =>
      mm_gI h p_4 7 3 fun v_5 =>
      mm_cI [] (cl 90 [.ref a0, .int (v_5 + x3)] h) fun v_7 h_6 =>
      (mm_br (v_3 = v_7) (
      mm_run E cl mm_m89 n 17 [some (.ref a0), some (.int x1), some (.int 1), some (.int (x3 + 1))] [] h_6) (
      mm_run E cl mm_m89 n 17 [some (.ref a0), some (.int x1), some (.int 0), some (.int (x3 + 1))] [] h_6)))))) := rfl
-- Tel.letterAt
set_option maxRecDepth 20000 in
set_option maxHeartbeats 4000000 in
theorem mm_e90_0 (E : mm_E) (cl : mm_F) (n : Nat) (a0 : Nat) (x1 : Int32) (h : mm_H) :
  mm_run E cl mm_m90 (n + 1) 0 [some (.ref a0), some (.int x1)] [] h =
  mm_gR h a0 6 0 fun p_1 =>
  mm_gI h p_1 7 4 fun v_2 =>
  (mm_br (v_2 ≤ x1) (
  some (.inl (some (.int 0)), h)) (
  mm_gR h a0 6 0 fun p_3 =>
    mm_gR h p_3 7 0 fun p_4 =>
    mm_rI E h p_4 x1 fun v_5 =>
    some (.inl (some (.int ((v_5 - 97) + 1))), h))) := rfl
-- Tel.refuse
set_option maxRecDepth 20000 in
set_option maxHeartbeats 4000000 in
theorem mm_e91_0 (E : mm_E) (cl : mm_F) (n : Nat) (a0 : Nat) (x1 : Int32) (h : mm_H) :
  mm_run E cl mm_m91 (n + 1) 0 [some (.ref a0), some (.int x1)] [] h =
  mm_pF h a0 6 2 (.int x1) fun h_1 =>
  (mm_bz 0 (some (.inl (some (.int 0)), h_1))) := rfl
-- Tok.init
set_option maxRecDepth 20000 in
set_option maxHeartbeats 4000000 in
theorem mm_e92_0 (E : mm_E) (cl : mm_F) (n : Nat) (a0 : Nat) (h : mm_H) :
  mm_run E cl mm_m92 (n + 1) 0 [some (.ref a0)] [] h =
  mm_nn 400 fun k_3 => mm_al h (.inr (.inl (k_3, fun _ => 0))) k_3 fun p_1 h_2 =>
  mm_pF h_2 a0 7 0 (.ref p_1) fun h_4 =>
  mm_pF h_4 a0 7 1 (.int 0) fun h_5 =>
  mm_pF h_5 a0 7 2 (.int 0) fun h_6 =>
  mm_pF h_6 a0 7 3 (.int 0) fun h_7 =>
  mm_pF h_7 a0 7 4 (.int 0) fun h_8 =>
  mm_pF h_8 a0 7 5 (.int 0) fun h_9 =>
  some (.inl none, h_9) := rfl
-- Tok.put
set_option maxRecDepth 20000 in
set_option maxHeartbeats 4000000 in
theorem mm_e93_0 (E : mm_E) (cl : mm_F) (n : Nat) (a0 : Nat) (x1 : Int32) (h : mm_H) :
  mm_run E cl mm_m93 (n + 1) 0 [some (.ref a0), some (.int x1), none] [] h =
  mm_run E cl mm_m93 n 3 [some (.ref a0), some (.int x1), some (.int 24)] [] h := rfl
-- Tok.put
set_option maxRecDepth 20000 in
set_option maxHeartbeats 4000000 in
theorem mm_e93_3 (E : mm_E) (cl : mm_F) (n : Nat) (a0 : Nat) (x1 : Int32) (x2 : Int32) (h : mm_H) :
  mm_run E cl mm_m93 (n + 1) 3 [some (.ref a0), some (.int x1), some (.int x2)] [] h =
  (mm_br (x2 < 0) (
  some (.inl none, h)) (
  mm_gI h a0 7 1 fun v_1 =>
    (mm_br (400 ≤ v_1) (
    some (.inl none, h)) (
    mm_gR h a0 7 0 fun p_2 =>
      mm_gI h a0 7 1 fun v_3 =>
      mm_wI h p_2 v_3 ((((x1).toUInt32 >>> ((x2 : Int32).toUInt32 &&& Int32.toUInt32 31)).toInt32) &&& 255) fun h_4 =>
      mm_gI h_4 a0 7 1 fun v_5 =>
      mm_pF h_4 a0 7 1 (.int (v_5 + 1)) fun h_6 =>
      mm_run E cl mm_m93 n 3 [some (.ref a0), some (.int x1), some (.int (x2 + (-8)))] [] h_6)))) := rfl
-- Tok.open
set_option maxRecDepth 20000 in
set_option maxHeartbeats 4000000 in
theorem mm_e94_0 (E : mm_E) (cl : mm_F) (n : Nat) (a0 : Nat) (x1 : Int32) (h : mm_H) :
  mm_run E cl mm_m94 (n + 1) 0 [some (.ref a0), some (.int x1)] [] h =
  mm_pF h a0 7 2 (.int (mm_mn x1 400)) fun h_1 =>
  mm_pF h_1 a0 7 4 (.int 0) fun h_2 =>
  mm_cV [] (cl 95 [.ref a0] h_2) fun h_3 =>
  some (.inl none, h_3) := rfl
-- Tok.advance
set_option maxRecDepth 20000 in
set_option maxHeartbeats 4000000 in
theorem mm_e95_0 (E : mm_E) (cl : mm_F) (n : Nat) (a0 : Nat) (h : mm_H) :
  mm_run E cl mm_m95 (n + 1) 0 [some (.ref a0)] [] h =
  mm_gI h a0 7 4 fun v_1 =>
  mm_pF h a0 7 3 (.int v_1) fun h_2 =>
  mm_run E cl mm_m95 n 8 [some (.ref a0)] [] h_2 := rfl
-- Tok.advance
set_option maxRecDepth 20000 in
set_option maxHeartbeats 4000000 in
theorem mm_e95_8 (E : mm_E) (cl : mm_F) (n : Nat) (a0 : Nat) (h : mm_H) :
  mm_run E cl mm_m95 (n + 1) 8 [some (.ref a0)] [] h =
  mm_gI h a0 7 3 fun v_1 =>
  mm_gI h a0 7 2 fun v_2 =>
  (mm_br (v_2 ≤ v_1) (
  mm_gI h a0 7 3 fun v_3 =>
    mm_gI h a0 7 2 fun v_4 =>
    (mm_br (v_4 ≤ v_3) (
    mm_run E cl mm_m95 n 88 [some (.ref a0)] [.int 0, .ref a0] h) (
    mm_gR h a0 7 0 fun p_5 =>
      mm_gI h a0 7 3 fun v_6 =>
      mm_rI E h p_5 v_6 fun v_7 =>
      mm_cI [] (cl 100 [.int v_7] h) fun v_9 h_8 =>
      mm_run E cl mm_m95 n 88 [some (.ref a0)] [.int v_9, .ref a0] h_8))) (
  mm_gR h a0 7 0 fun p_10 =>
    mm_gI h a0 7 3 fun v_11 =>
    mm_rI E h p_10 v_11 fun v_12 =>
    (mm_br (v_12 = 32) (
    mm_gI h a0 7 3 fun v_13 =>
      mm_pF h a0 7 3 (.int (v_13 + 1)) fun h_14 =>
      mm_run E cl mm_m95 n 8 [some (.ref a0)] [] h_14) (
    mm_gR h a0 7 0 fun p_15 =>
      mm_gI h a0 7 3 fun v_16 =>
      mm_rI E h p_15 v_16 fun v_17 =>
      (mm_br (v_17 = 10) (
      mm_gI h a0 7 3 fun v_25 =>
        mm_pF h a0 7 3 (.int (v_25 + 1)) fun h_26 =>
        mm_run E cl mm_m95 n 8 [some (.ref a0)] [] h_26) (
      mm_gI h a0 7 3 fun v_18 =>
        mm_gI h a0 7 2 fun v_19 =>
        (mm_br (v_19 ≤ v_18) (
        mm_run E cl mm_m95 n 88 [some (.ref a0)] [.int 0, .ref a0] h) (
        mm_gR h a0 7 0 fun p_20 =>
          mm_gI h a0 7 3 fun v_21 =>
          mm_rI E h p_20 v_21 fun v_22 =>
          mm_cI [] (cl 100 [.int v_22] h) fun v_24 h_23 =>
          mm_run E cl mm_m95 n 88 [some (.ref a0)] [.int v_24, .ref a0] h_23)))))))) := rfl
-- Tok.advance
set_option maxRecDepth 20000 in
set_option maxHeartbeats 4000000 in
theorem mm_e95_88 (E : mm_E) (cl : mm_F) (n : Nat) (a0 : Nat) (b0 : Nat) (s1 : Int32) (h : mm_H) :
  mm_run E cl mm_m95 (n + 1) 88 [some (.ref a0)] [.int s1, .ref b0] h =
  mm_pF h b0 7 5 (.int s1) fun h_1 =>
  mm_gI h_1 a0 7 3 fun v_2 =>
  mm_gI h_1 a0 7 2 fun v_3 =>
  mm_pF h_1 a0 7 4 (.int (mm_mn (v_2 + 1) v_3)) fun h_4 =>
  mm_gI h_4 a0 7 5 fun v_5 =>
  (mm_br (v_5 = 1) (
  mm_run E cl mm_m95 n 124 [some (.ref a0)] [] h_4) (
  mm_gI h_4 a0 7 5 fun v_6 =>
    (mm_br (v_6 = 2) (
    mm_run E cl mm_m95 n 124 [some (.ref a0)] [] h_4) (
    some (.inl none, h_4))))) := rfl
-- Tok.advance
set_option maxRecDepth 20000 in
set_option maxHeartbeats 4000000 in
theorem mm_e95_124 (E : mm_E) (cl : mm_F) (n : Nat) (a0 : Nat) (h : mm_H) :
  mm_run E cl mm_m95 (n + 1) 124 [some (.ref a0)] [] h =
  mm_gI h a0 7 4 fun v_1 =>
  mm_gI h a0 7 2 fun v_2 =>
  (mm_br (v_2 ≤ v_1) (
  some (.inl none, h)) (
  mm_gR h a0 7 0 fun p_3 =>
    mm_gI h a0 7 4 fun v_4 =>
    mm_rI E h p_3 v_4 fun v_5 =>
    mm_cI [] (cl 100 [.int v_5] h) fun v_7 h_6 =>
    mm_gI h_6 a0 7 5 fun v_8 =>
    (mm_br (v_7 = v_8) (
    mm_gI h_6 a0 7 4 fun v_9 =>
      mm_pF h_6 a0 7 4 (.int (v_9 + 1)) fun h_10 =>
      mm_run E cl mm_m95 n 124 [some (.ref a0)] [] h_10) (
    some (.inl none, h_6))))) := rfl
-- Tok.isSign
set_option maxRecDepth 20000 in
set_option maxHeartbeats 4000000 in
theorem mm_e96_0 (E : mm_E) (cl : mm_F) (n : Nat) (a0 : Nat) (x1 : Int32) (h : mm_H) :
  mm_run E cl mm_m96 (n + 1) 0 [some (.ref a0), some (.int x1)] [] h =
  mm_gI h a0 7 5 fun v_1 =>
  (mm_br (v_1 = 3) (
  mm_gR h a0 7 0 fun p_2 =>
    mm_gI h a0 7 3 fun v_3 =>
    mm_rI E h p_2 v_3 fun v_4 =>
    (mm_br (v_4 = x1) (
    (mm_bz 1 (some (.inl (some (.int 1)), h)))) (
    (mm_bz 0 (some (.inl (some (.int 0)), h)))))) (
  (mm_bz 0 (some (.inl (some (.int 0)), h))))) := rfl
-- Tok.skipWord
set_option maxRecDepth 20000 in
set_option maxHeartbeats 4000000 in
theorem mm_e97_0 (E : mm_E) (cl : mm_F) (n : Nat) (a0 : Nat) (a1 : Nat) (h : mm_H) :
  mm_run E cl mm_m97 (n + 1) 0 [some (.ref a0), some (.ref a1), none] [] h =
  mm_cI [] (cl 98 [.ref a0, .ref a1] h) fun v_2 h_1 =>
  (mm_br (v_2 = 0) (
  (mm_br ((1 : Int32) = 0) (
    (mm_bz 1 (some (.inl (some (.int 1)), h_1)))) (
    mm_cV [] (cl 95 [.ref a0] h_1) fun h_4 =>
      (mm_bz 1 (some (.inl (some (.int 1)), h_4)))))) (
  (mm_br ((0 : Int32) = 0) (
    (mm_bz 0 (some (.inl (some (.int 0)), h_1)))) (
    mm_cV [] (cl 95 [.ref a0] h_1) fun h_3 =>
      (mm_bz 0 (some (.inl (some (.int 0)), h_3))))))) := rfl
-- Tok.among
set_option maxRecDepth 20000 in
set_option maxHeartbeats 4000000 in
theorem mm_e98_0 (E : mm_E) (cl : mm_F) (n : Nat) (a0 : Nat) (a1 : Nat) (h : mm_H) :
  mm_run E cl mm_m98 (n + 1) 0 [some (.ref a0), some (.ref a1), none, none, none, none] [] h =
  mm_gI h a0 7 5 fun v_1 =>
  (mm_br (v_1 = 1) (
  mm_gI h a0 7 3 fun v_2 =>
    mm_run E cl mm_m98 n 23 [some (.ref a0), some (.ref a1), some (.int 0), some (.int v_2), some (.int 1), some (.int 0)] [] h) (
  some (.inl (some (.int (-1))), h))) := rfl
-- Tok.among
set_option maxRecDepth 20000 in
set_option maxHeartbeats 4000000 in
theorem mm_e98_23 (E : mm_E) (cl : mm_F) (n : Nat) (a0 : Nat) (a1 : Nat) (x2 : Int32) (x3 : Int32) (x4 : Int32) (x5 : Int32) (h : mm_H) :
  mm_run E cl mm_m98 (n + 1) 23 [some (.ref a0), some (.ref a1), some (.int x2), some (.int x3), some (.int x4), some (.int x5)] [] h =
  mm_sl E a1 fun v_1 =>
  (mm_br (v_1 ≤ x5) (
  some (.inl (some (.int (-1))), h)) (
  mm_sa E a1 x5 fun v_2 =>
    (mm_br (v_2 = 32) (
    (mm_br (x4 = 0) (
      mm_gI h a0 7 3 fun v_3 =>
        mm_run E cl mm_m98 n 23 [some (.ref a0), some (.ref a1), some (.int (x2 + 1)), some (.int v_3), some (.int 1), some (.int (x5 + 1))] [] h) (
      mm_gI h a0 7 4 fun v_4 =>
        (mm_br (x3 = v_4) (
        some (.inl (some (.int x2)), h)) (
        mm_gI h a0 7 3 fun v_5 =>
          mm_run E cl mm_m98 n 23 [some (.ref a0), some (.ref a1), some (.int (x2 + 1)), some (.int v_5), some (.int 1), some (.int (x5 + 1))] [] h))))) (
    (mm_br (x4 = 0) (
      mm_run E cl mm_m98 n 23 [some (.ref a0), some (.ref a1), some (.int x2), some (.int (x3 + 1)), some (.int 0), some (.int (x5 + 1))] [] h) (
      mm_gI h a0 7 4 fun v_6 =>
        (mm_br (v_6 ≤ x3) (
        mm_run E cl mm_m98 n 23 [some (.ref a0), some (.ref a1), some (.int x2), some (.int (x3 + 1)), some (.int 0), some (.int (x5 + 1))] [] h) (
        mm_gR h a0 7 0 fun p_7 =>
          mm_rI E h p_7 x3 fun v_8 =>
          mm_sa E a1 x5 fun v_9 =>
          (mm_br (v_8 = v_9) (
          mm_run E cl mm_m98 n 23 [some (.ref a0), some (.ref a1), some (.int x2), some (.int (x3 + 1)), some (.int 1), some (.int (x5 + 1))] [] h) (
          mm_run E cl mm_m98 n 23 [some (.ref a0), some (.ref a1), some (.int x2), some (.int (x3 + 1)), some (.int 0), some (.int (x5 + 1))] [] h)))))))))) := rfl
-- Tok.number
set_option maxRecDepth 20000 in
set_option maxHeartbeats 4000000 in
theorem mm_e99_0 (E : mm_E) (cl : mm_F) (n : Nat) (a0 : Nat) (h : mm_H) :
  mm_run E cl mm_m99 (n + 1) 0 [some (.ref a0), none, none] [] h =
  mm_gI h a0 7 3 fun v_1 =>
  mm_run E cl mm_m99 n 7 [some (.ref a0), some (.int 0), some (.int v_1)] [] h := rfl
-- Tok.number
set_option maxRecDepth 20000 in
set_option maxHeartbeats 4000000 in
theorem mm_e99_7 (E : mm_E) (cl : mm_F) (n : Nat) (a0 : Nat) (x1 : Int32) (x2 : Int32) (h : mm_H) :
  mm_run E cl mm_m99 (n + 1) 7 [some (.ref a0), some (.int x1), some (.int x2)] [] h =
  mm_gI h a0 7 4 fun v_1 =>
  (mm_br (v_1 ≤ x2) (
  some (.inl (some (.int x1)), h)) (
  mm_gR h a0 7 0 fun p_2 =>
    mm_rI E h p_2 x2 fun v_3 =>
    mm_run E cl mm_m99 n 7 [some (.ref a0), some (.int (mm_mn (((x1 * 10) + v_3) - 48) 1000000)), some (.int (x2 + 1))] [] h)) := rfl
-- Tok.kindOf
set_option maxRecDepth 20000 in
set_option maxHeartbeats 4000000 in
theorem mm_e100_0 (E : mm_E) (cl : mm_F) (n : Nat) (x0 : Int32) (h : mm_H) :
  mm_run E cl mm_m100 (n + 1) 0 [some (.int x0)] [] h =
  (mm_br (x0 < 97) (
  (mm_br (x0 < 48) (
    some (.inl (some (.int 3)), h)) (
    (mm_br (57 < x0) (
      some (.inl (some (.int 3)), h)) (
      some (.inl (some (.int 2)), h)))))) (
  (mm_br (122 < x0) (
    (mm_br (x0 < 48) (
      some (.inl (some (.int 3)), h)) (
      (mm_br (57 < x0) (
        some (.inl (some (.int 3)), h)) (
        some (.inl (some (.int 2)), h)))))) (
    some (.inl (some (.int 1)), h))))) := rfl
-- PS.init
set_option maxRecDepth 20000 in
set_option maxHeartbeats 4000000 in
theorem mm_e101_0 (E : mm_E) (cl : mm_F) (n : Nat) (a0 : Nat) (h : mm_H) :
  mm_run E cl mm_m101 (n + 1) 0 [some (.ref a0)] [] h =
  mm_al h (.inl (7, mm_new.getD 7 [])) (mm_new.getD 7 []).length fun p_1 h_2 =>
  mm_cV [] (cl 92 [.ref p_1] h_2) fun h_3 =>
  mm_pF h_3 a0 8 0 (.ref p_1) fun h_4 =>
  mm_al h_4 (.inl (3, mm_new.getD 3 [])) (mm_new.getD 3 []).length fun p_5 h_6 =>
  mm_cV [] (cl 29 [.ref p_5] h_6) fun h_7 =>
  mm_pF h_7 a0 8 1 (.ref p_5) fun h_8 =>
  mm_al h_8 (.inl (3, mm_new.getD 3 [])) (mm_new.getD 3 []).length fun p_9 h_10 =>
  mm_cV [] (cl 29 [.ref p_9] h_10) fun h_11 =>
  mm_pF h_11 a0 8 2 (.ref p_9) fun h_12 =>
  mm_al h_12 (.inl (3, mm_new.getD 3 [])) (mm_new.getD 3 []).length fun p_13 h_14 =>
  mm_cV [] (cl 29 [.ref p_13] h_14) fun h_15 =>
  mm_pF h_15 a0 8 3 (.ref p_13) fun h_16 =>
  mm_al h_16 (.inl (0, mm_new.getD 0 [])) (mm_new.getD 0 []).length fun p_17 h_18 =>
  mm_cV [] (cl 0 [.ref p_17] h_18) fun h_19 =>
  mm_pF h_19 a0 8 4 (.ref p_17) fun h_20 =>
  mm_al h_20 (.inl (1, mm_new.getD 1 [])) (mm_new.getD 1 []).length fun p_21 h_22 =>
  mm_cV [] (cl 4 [.ref p_21] h_22) fun h_23 =>
  mm_pF h_23 a0 8 5 (.ref p_21) fun h_24 =>
  mm_al h_24 (.inl (2, mm_new.getD 2 [])) (mm_new.getD 2 []).length fun p_25 h_26 =>
  mm_cV [] (cl 19 [.ref p_25] h_26) fun h_27 =>
  mm_pF h_27 a0 8 6 (.ref p_25) fun h_28 =>
  mm_al h_28 (.inl (6, mm_new.getD 6 [])) (mm_new.getD 6 []).length fun p_29 h_30 =>
  mm_gR h_30 a0 8 0 fun p_31 =>
  mm_gR h_30 a0 8 2 fun p_32 =>
  mm_cV [] (cl 78 [.ref p_29, .ref p_31, .ref p_32] h_30) fun h_33 =>
  mm_pF h_33 a0 8 7 (.ref p_29) fun h_34 =>
  mm_al h_34 (.inl (4, mm_new.getD 4 [])) (mm_new.getD 4 []).length fun p_35 h_36 =>
  mm_gR h_36 a0 8 0 fun p_37 =>
  mm_gR h_36 a0 8 1 fun p_38 =>
  mm_cV [] (cl 62 [.ref p_35, .ref p_37, .ref p_38] h_36) fun h_39 =>
  mm_pF h_39 a0 8 8 (.ref p_35) fun h_40 =>
  mm_nn 21 fun k_43 => mm_al h_40 (.inr (.inl (k_43, fun _ => 0))) k_43 fun p_41 h_42 =>
  mm_pF h_42 a0 8 9 (.ref p_41) fun h_44 =>
  mm_pF h_44 a0 8 10 (.int 0) fun h_45 =>
  mm_pF h_45 a0 8 11 (.int 0) fun h_46 =>
  (mm_bz 0 (
  mm_pF h_46 a0 8 12 (.int 0) fun h_47 =>
  mm_pF h_47 a0 8 13 (.int (-1)) fun h_48 =>
  some (.inl none, h_48))) := rfl
-- PS.feed
set_option maxRecDepth 20000 in
set_option maxHeartbeats 4000000 in
theorem mm_e102_0 (E : mm_E) (cl : mm_F) (n : Nat) (a0 : Nat) (x1 : Int32) (x2 : Int32) (x3 : Int32) (x4 : Int32) (x5 : Int32) (h : mm_H) :
  mm_run E cl mm_m102 (n + 1) 0 [some (.ref a0), some (.int x1), some (.int x2), some (.int x3), some (.int x4), some (.int x5)] [] h =
  mm_gR h a0 8 0 fun p_1 =>
  mm_gI h p_1 7 1 fun v_2 =>
  (mm_br ((v_2 + 20) ≤ 400) (
  mm_gR h a0 8 0 fun p_3 =>
    mm_cV [] (cl 93 [.ref p_3, .int x1] h) fun h_4 =>
    mm_gR h_4 a0 8 0 fun p_5 =>
    mm_cV [] (cl 93 [.ref p_5, .int x2] h_4) fun h_6 =>
    mm_gR h_6 a0 8 0 fun p_7 =>
    mm_cV [] (cl 93 [.ref p_7, .int x3] h_6) fun h_8 =>
    mm_gR h_8 a0 8 0 fun p_9 =>
    mm_cV [] (cl 93 [.ref p_9, .int x4] h_8) fun h_10 =>
    mm_gR h_10 a0 8 0 fun p_11 =>
    mm_cV [] (cl 93 [.ref p_11, .int x5] h_10) fun h_12 =>
    mm_gR h_12 a0 8 0 fun p_13 =>
    mm_gI h_12 p_13 7 1 fun v_14 =>
    some (.inl (some (.int v_14)), h_12)) (
  some (.inl (some (.int (-1))), h))) := rfl
-- PS.network
set_option maxRecDepth 20000 in
set_option maxHeartbeats 4000000 in
theorem mm_e103_0 (E : mm_E) (cl : mm_F) (n : Nat) (a0 : Nat) (x1 : Int32) (h : mm_H) :
  mm_run E cl mm_m103 (n + 1) 0 [some (.ref a0), some (.int x1), none] [] h =
  (mm_br (x1 < 0) (
  some (.inr 1, (h.1, (none, (h.2.2.1 + 1, h.2.2.2 + 6))))) (
  mm_gR h a0 8 0 fun p_1 =>
    mm_gI h p_1 7 1 fun v_2 =>
    (mm_br (x1 ≤ v_2) (
    mm_gR h a0 8 7 fun p_3 =>
      mm_cI [] (cl 79 [.ref p_3, .int x1] h) fun v_5 h_4 =>
      mm_cV [] (cl 138 [.ref a0, .int v_5] h_4) fun h_6 =>
      (mm_br (v_5 = 0) (
      mm_gR h_6 a0 8 1 fun p_7 =>
        mm_gR h_6 a0 8 2 fun p_8 =>
        mm_cV [] (cl 34 [.ref p_7, .ref p_8] h_6) fun h_9 =>
        mm_gR h_9 a0 8 4 fun p_10 =>
        mm_cV [] (cl 3 [.ref p_10] h_9) fun h_11 =>
        mm_gR h_11 a0 8 1 fun p_12 =>
        mm_gI h_11 p_12 3 10 fun v_13 =>
        some (.inl (some (.int v_13)), h_11)) (
      some (.inl (some (.int ((-10) - v_5))), h_6)))) (
    some (.inr 1, (h.1, (none, (h.2.2.1 + 1, h.2.2.2 + 6)))))))) := rfl
-- PS.fault
set_option maxRecDepth 20000 in
set_option maxHeartbeats 4000000 in
theorem mm_e104_0 (E : mm_E) (cl : mm_F) (n : Nat) (a0 : Nat) (h : mm_H) :
  mm_run E cl mm_m104 (n + 1) 0 [some (.ref a0)] [] h =
  mm_gI h a0 8 13 fun v_1 =>
  some (.inl (some (.int v_1)), h) := rfl
-- PS.count
set_option maxRecDepth 20000 in
set_option maxHeartbeats 4000000 in
theorem mm_e105_0 (E : mm_E) (cl : mm_F) (n : Nat) (a0 : Nat) (x1 : Int32) (h : mm_H) :
  mm_run E cl mm_m105 (n + 1) 0 [some (.ref a0), some (.int x1)] [] h =
  (mm_br (x1 = 0) (
  mm_gR h a0 8 1 fun p_18 =>
    mm_gI h p_18 3 10 fun v_19 =>
    some (.inl (some (.int v_19)), h)) (
  (mm_br (x1 = 1) (
  mm_gR h a0 8 1 fun p_15 =>
    mm_cI [] (cl 41 [.ref p_15] h) fun v_17 h_16 =>
    some (.inl (some (.int v_17)), h_16)) (
  (mm_br (x1 = 2) (
  mm_gR h a0 8 1 fun p_13 =>
    mm_gI h p_13 3 11 fun v_14 =>
    some (.inl (some (.int v_14)), h)) (
  (mm_br (x1 = 3) (
  mm_gR h a0 8 1 fun p_8 =>
    mm_gI h p_8 3 10 fun v_9 =>
    mm_gR h a0 8 1 fun p_10 =>
    mm_cI [] (cl 41 [.ref p_10] h) fun v_12 h_11 =>
    some (.inl (some (.int (v_9 - v_12))), h_11)) (
  (mm_br (x1 = 4) (
  mm_gR h a0 8 1 fun p_5 =>
    mm_cI [] (cl 42 [.ref p_5] h) fun v_7 h_6 =>
    some (.inl (some (.int v_7)), h_6)) (
  (mm_br (x1 = 5) (
  mm_gR h a0 8 4 fun p_3 =>
    mm_gI h p_3 0 3 fun v_4 =>
    some (.inl (some (.int v_4)), h)) (
  (mm_br (x1 = 6) (
  mm_gR h a0 8 0 fun p_1 =>
    mm_gI h p_1 7 1 fun v_2 =>
    some (.inl (some (.int v_2)), h)) (
  some (.inr 0, (h.1, (none, (h.2.2.1 + 1, h.2.2.2 + 6)))))))))))))))))) := rfl
-- PS.letter
set_option maxRecDepth 20000 in
set_option maxHeartbeats 4000000 in
theorem mm_e106_0 (E : mm_E) (cl : mm_F) (n : Nat) (a0 : Nat) (x1 : Int32) (x2 : Int32) (h : mm_H) :
  mm_run E cl mm_m106 (n + 1) 0 [some (.ref a0), some (.int x1), some (.int x2)] [] h =
  mm_cV [] (cl 133 [.ref a0, .int x1] h) fun h_1 =>
  (mm_br (x2 < 0) (
  some (.inr 0, (h_1.1, (none, (h_1.2.2.1 + 1, h_1.2.2.2 + 6))))) (
  (mm_br (x2 < 6) (
    mm_gR h_1 a0 8 1 fun p_2 =>
      mm_gR h_1 p_2 3 1 fun p_3 =>
      mm_rI E h_1 p_3 ((x1 * 6) + x2) fun v_4 =>
      some (.inl (some (.int v_4)), h_1)) (
    some (.inr 0, (h_1.1, (none, (h_1.2.2.1 + 1, h_1.2.2.2 + 6)))))))) := rfl
-- PS.stage
set_option maxRecDepth 20000 in
set_option maxHeartbeats 4000000 in
theorem mm_e107_0 (E : mm_E) (cl : mm_F) (n : Nat) (a0 : Nat) (x1 : Int32) (x2 : Int32) (h : mm_H) :
  mm_run E cl mm_m107 (n + 1) 0 [some (.ref a0), some (.int x1), some (.int x2)] [] h =
  mm_cV [] (cl 133 [.ref a0, .int x1] h) fun h_1 =>
  mm_cV [] (cl 134 [.int x2, .int 12] h_1) fun h_2 =>
  (mm_br (x2 = 7) (
  mm_gR h_2 a0 8 1 fun p_18 =>
    mm_gR h_2 p_18 3 7 fun p_19 =>
    mm_rI E h_2 p_19 x1 fun v_20 =>
    some (.inl (some (.int v_20)), h_2)) (
  (mm_br (x2 = 8) (
  mm_gR h_2 a0 8 1 fun p_15 =>
    mm_gR h_2 p_15 3 8 fun p_16 =>
    mm_rI E h_2 p_16 x1 fun v_17 =>
    some (.inl (some (.int v_17)), h_2)) (
  (mm_br (x2 = 9) (
  mm_gR h_2 a0 8 1 fun p_12 =>
    mm_gR h_2 p_12 3 9 fun p_13 =>
    mm_rI E h_2 p_13 x1 fun v_14 =>
    some (.inl (some (.int v_14)), h_2)) (
  (mm_br (x2 = 10) (
  mm_gR h_2 a0 8 1 fun p_9 =>
    mm_gR h_2 p_9 3 2 fun p_10 =>
    mm_rI E h_2 p_10 x1 fun v_11 =>
    some (.inl (some (.int v_11)), h_2)) (
  (mm_br (x2 = 11) (
  mm_gR h_2 a0 8 1 fun p_6 =>
    mm_gR h_2 p_6 3 3 fun p_7 =>
    mm_rI E h_2 p_7 x1 fun v_8 =>
    some (.inl (some (.int v_8)), h_2)) (
  mm_gR h_2 a0 8 1 fun p_3 =>
  mm_cI [] (cl 30 [.ref p_3, .int x1, .int x2] h_2) fun v_5 h_4 =>
  some (.inl (some (.int v_5)), h_4))))))))))) := rfl
-- PS.bound
set_option maxRecDepth 20000 in
set_option maxHeartbeats 4000000 in
theorem mm_e108_0 (E : mm_E) (cl : mm_F) (n : Nat) (a0 : Nat) (x1 : Int32) (x2 : Int32) (x3 : Int32) (h : mm_H) :
  mm_run E cl mm_m108 (n + 1) 0 [some (.ref a0), some (.int x1), some (.int x2), some (.int x3)] [] h =
  mm_cV [] (cl 133 [.ref a0, .int x1] h) fun h_1 =>
  mm_cV [] (cl 134 [.int x2, .int 2] h_1) fun h_2 =>
  (mm_br (x3 < 0) (
  some (.inr 1, (h_2.1, (none, (h_2.2.2.1 + 1, h_2.2.2.2 + 6))))) (
  (mm_br (x3 ≤ 999) (
    (mm_br (x2 = 0) (
      mm_gR h_2 a0 8 1 fun p_6 =>
        mm_cI [] (cl 47 [.ref p_6, .int x1, .int x3] h_2) fun v_8 h_7 =>
        some (.inl (some (.int v_8)), h_7)) (
      mm_gR h_2 a0 8 1 fun p_3 =>
        mm_cI [] (cl 49 [.ref p_3, .int x1, .int x3] h_2) fun v_5 h_4 =>
        some (.inl (some (.int v_5)), h_4)))) (
    some (.inr 1, (h_2.1, (none, (h_2.2.2.1 + 1, h_2.2.2.2 + 6)))))))) := rfl
-- PS.change
set_option maxRecDepth 20000 in
set_option maxHeartbeats 4000000 in
theorem mm_e109_0 (E : mm_E) (cl : mm_F) (n : Nat) (a0 : Nat) (x1 : Int32) (x2 : Int32) (x3 : Int32) (h : mm_H) :
  mm_run E cl mm_m109 (n + 1) 0 [some (.ref a0), some (.int x1), some (.int x2), some (.int x3)] [] h =
  mm_cV [] (cl 134 [.int x2, .int 7] h) fun h_1 =>
  (mm_br (x2 = 6) (
  mm_cI [] (cl 139 [.ref a0, .int x3] h_1) fun v_6 h_5 =>
    some (.inl (some (.int v_6)), h_5)) (
  mm_cV [] (cl 133 [.ref a0, .int x1] h_1) fun h_2 =>
    mm_cI [] (cl 140 [.ref a0, .int x1, .int x2, .int x3] h_2) fun v_4 h_3 =>
    some (.inl (some (.int v_4)), h_3))) := rfl
-- PS.add
set_option maxRecDepth 20000 in
set_option maxHeartbeats 4000000 in
theorem mm_e110_0 (E : mm_E) (cl : mm_F) (n : Nat) (a0 : Nat) (x1 : Int32) (x2 : Int32) (x3 : Int32) (x4 : Int32) (h : mm_H) :
  mm_run E cl mm_m110 (n + 1) 0 [some (.ref a0), some (.int x1), some (.int x2), some (.int x3), some (.int x4), none] [] h =
  mm_gR h a0 8 1 fun p_1 =>
  mm_gI h p_1 3 10 fun v_2 =>
  (mm_br (12 ≤ v_2) (
  some (.inl (some (.int (-1))), h)) (
  mm_cI [] (cl 132 [.ref a0, .int x1] h) fun v_4 h_3 =>
    (mm_br (v_4 = 0) (
    some (.inl (some (.int (-1))), h_3)) (
    mm_cI [] (cl 137 [.int 0, .int x3] h_3) fun v_6 h_5 =>
      (mm_br (v_6 = 0) (
      some (.inl (some (.int (-1))), h_5)) (
      mm_cI [] (cl 137 [.int 1, .int x4] h_5) fun v_8 h_7 =>
        (mm_br (v_8 = 0) (
        some (.inl (some (.int (-1))), h_7)) (
        mm_gR h_7 a0 8 1 fun p_9 =>
          mm_cI [] (cl 36 [.ref p_9] h_7) fun v_11 h_10 =>
          mm_gR h_10 a0 8 1 fun p_12 =>
          mm_cV [] (cl 31 [.ref p_12, .int v_11, .int 0, .int x3] h_10) fun h_13 =>
          mm_gR h_13 a0 8 1 fun p_14 =>
          mm_cV [] (cl 31 [.ref p_14, .int v_11, .int 1, .int x4] h_13) fun h_15 =>
          (mm_br (x2 = 0) (
          mm_gR h_15 a0 8 1 fun p_16 =>
            mm_cV [] (cl 38 [.ref p_16, .int x1, .int v_11] h_15) fun h_17 =>
            mm_gR h_17 a0 8 1 fun p_18 =>
            mm_cV [] (cl 43 [.ref p_18] h_17) fun h_19 =>
            mm_gR h_19 a0 8 4 fun p_20 =>
            mm_cV [] (cl 1 [.ref p_20, .int 8, .int v_11, .int 0] h_19) fun h_21 =>
            some (.inl (some (.int v_11)), h_21)) (
          mm_gR h_15 a0 8 1 fun p_22 =>
            mm_cV [] (cl 38 [.ref p_22, .int v_11, .int x1] h_15) fun h_23 =>
            mm_gR h_23 a0 8 1 fun p_24 =>
            mm_cV [] (cl 43 [.ref p_24] h_23) fun h_25 =>
            mm_gR h_25 a0 8 4 fun p_26 =>
            mm_cV [] (cl 1 [.ref p_26, .int 8, .int v_11, .int 0] h_25) fun h_27 =>
            some (.inl (some (.int v_11)), h_27))))))))))) := rfl
-- PS.supply
set_option maxRecDepth 20000 in
set_option maxHeartbeats 4000000 in
theorem mm_e111_0 (E : mm_E) (cl : mm_F) (n : Nat) (a0 : Nat) (x1 : Int32) (x2 : Int32) (h : mm_H) :
  mm_run E cl mm_m111 (n + 1) 0 [some (.ref a0), some (.int x1), some (.int x2)] [] h =
  mm_cI [] (cl 132 [.ref a0, .int x1] h) fun v_2 h_1 =>
  (mm_br (v_2 = 0) (
  some (.inl (some (.int (-1))), h_1)) (
  mm_cI [] (cl 132 [.ref a0, .int x2] h_1) fun v_4 h_3 =>
    (mm_br (v_4 = 0) (
    some (.inl (some (.int (-1))), h_3)) (
    mm_gR h_3 a0 8 1 fun p_5 =>
      mm_cI [] (cl 40 [.ref p_5, .int x1, .int x2] h_3) fun v_7 h_6 =>
      (mm_br (v_7 = 0) (
      mm_gR h_6 a0 8 1 fun p_8 =>
        mm_cV [] (cl 38 [.ref p_8, .int x1, .int x2] h_6) fun h_9 =>
        mm_gR h_9 a0 8 1 fun p_10 =>
        mm_cV [] (cl 43 [.ref p_10] h_9) fun h_11 =>
        mm_gR h_11 a0 8 4 fun p_12 =>
        mm_cV [] (cl 1 [.ref p_12, .int 9, .int x1, .int x2] h_11) fun h_13 =>
        mm_gR h_13 a0 8 1 fun p_14 =>
        mm_cI [] (cl 41 [.ref p_14] h_13) fun v_16 h_15 =>
        some (.inl (some (.int v_16)), h_15)) (
      some (.inl (some (.int (-1))), h_6))))))) := rfl
-- PS.pin
set_option maxRecDepth 20000 in
set_option maxHeartbeats 4000000 in
theorem mm_e112_0 (E : mm_E) (cl : mm_F) (n : Nat) (a0 : Nat) (x1 : Int32) (x2 : Int32) (h : mm_H) :
  mm_run E cl mm_m112 (n + 1) 0 [some (.ref a0), some (.int x1), some (.int x2)] [] h =
  mm_cV [] (cl 133 [.ref a0, .int x1] h) fun h_1 =>
  mm_cI [] (cl 140 [.ref a0, .int x1, .int 6, .int x2] h_1) fun v_3 h_2 =>
  some (.inl (some (.int v_3)), h_2) := rfl
-- PS.undo
set_option maxRecDepth 20000 in
set_option maxHeartbeats 4000000 in
theorem mm_e113_0 (E : mm_E) (cl : mm_F) (n : Nat) (a0 : Nat) (h : mm_H) :
  mm_run E cl mm_m113 (n + 1) 0 [some (.ref a0), none] [] h =
  mm_gR h a0 8 4 fun p_1 =>
  mm_gI h p_1 0 3 fun v_2 =>
  (mm_br (v_2 = 0) (
  some (.inl (some (.int (-1))), h)) (
  mm_gR h a0 8 4 fun p_3 =>
    mm_cI [] (cl 2 [.ref p_3] h) fun v_5 h_4 =>
    mm_gR h_4 a0 8 4 fun p_6 =>
    mm_gR h_4 p_6 0 0 fun p_7 =>
    mm_rI E h_4 p_7 v_5 fun v_8 =>
    mm_gR h_4 a0 8 4 fun p_9 =>
    mm_gR h_4 p_9 0 1 fun p_10 =>
    mm_rI E h_4 p_10 v_5 fun v_11 =>
    mm_gR h_4 a0 8 4 fun p_12 =>
    mm_gR h_4 p_12 0 2 fun p_13 =>
    mm_rI E h_4 p_13 v_5 fun v_14 =>
    mm_cV [] (cl 141 [.ref a0, .int v_8, .int v_11, .int v_14] h_4) fun h_15 =>
    mm_gR h_15 a0 8 1 fun p_16 =>
    mm_cV [] (cl 43 [.ref p_16] h_15) fun h_17 =>
    mm_gR h_17 a0 8 4 fun p_18 =>
    mm_gI h_17 p_18 0 3 fun v_19 =>
    some (.inl (some (.int v_19)), h_17))) := rfl
-- PS.take
set_option maxRecDepth 20000 in
set_option maxHeartbeats 4000000 in
theorem mm_e114_0 (E : mm_E) (cl : mm_F) (n : Nat) (a0 : Nat) (x1 : Int32) (h : mm_H) :
  mm_run E cl mm_m114 (n + 1) 0 [some (.ref a0), some (.int x1)] [] h =
  (mm_br (x1 < 0) (
  some (.inl (some (.int (-1))), h)) (
  (mm_br (x1 ≤ 3) (
    (mm_br (x1 = 2) (
      mm_gR h a0 8 5 fun p_8 =>
        mm_gR h a0 8 1 fun p_9 =>
        mm_cI [] (cl 5 [.ref p_8, .ref p_9] h) fun v_11 h_10 =>
        (mm_br (v_11 = (-1)) (
        some (.inl (some (.int (-1))), h_10)) (
        (mm_br (x1 = 1) (
          mm_gR h_10 a0 8 1 fun p_17 =>
            mm_cV [] (cl 57 [.ref p_17] h_10) fun h_18 =>
            mm_run E cl mm_m114 n 94 [some (.ref a0), some (.int x1)] [] h_18) (
          (mm_br (x1 = 2) (
          mm_cV [] (cl 142 [.ref a0] h_10) fun h_16 =>
            mm_run E cl mm_m114 n 94 [some (.ref a0), some (.int x1)] [] h_16) (
          (mm_br (x1 = 3) (
          mm_gR h_10 a0 8 1 fun p_14 =>
            mm_cV [] (cl 58 [.ref p_14] h_10) fun h_15 =>
            mm_run E cl mm_m114 n 94 [some (.ref a0), some (.int x1)] [] h_15) (
          mm_gR h_10 a0 8 1 fun p_12 =>
          mm_cV [] (cl 56 [.ref p_12] h_10) fun h_13 =>
          mm_run E cl mm_m114 n 94 [some (.ref a0), some (.int x1)] [] h_13))))))))) (
      (mm_br (x1 = 1) (
        mm_gR h a0 8 1 fun p_6 =>
          mm_cV [] (cl 57 [.ref p_6] h) fun h_7 =>
          mm_run E cl mm_m114 n 94 [some (.ref a0), some (.int x1)] [] h_7) (
        (mm_br (x1 = 2) (
        mm_cV [] (cl 142 [.ref a0] h) fun h_5 =>
          mm_run E cl mm_m114 n 94 [some (.ref a0), some (.int x1)] [] h_5) (
        (mm_br (x1 = 3) (
        mm_gR h a0 8 1 fun p_3 =>
          mm_cV [] (cl 58 [.ref p_3] h) fun h_4 =>
          mm_run E cl mm_m114 n 94 [some (.ref a0), some (.int x1)] [] h_4) (
        mm_gR h a0 8 1 fun p_1 =>
        mm_cV [] (cl 56 [.ref p_1] h) fun h_2 =>
        mm_run E cl mm_m114 n 94 [some (.ref a0), some (.int x1)] [] h_2))))))))) (
    some (.inl (some (.int (-1))), h))))) := rfl
-- PS.take
set_option maxRecDepth 20000 in
set_option maxHeartbeats 4000000 in
theorem mm_e114_94 (E : mm_E) (cl : mm_F) (n : Nat) (a0 : Nat) (x1 : Int32) (h : mm_H) :
  mm_run E cl mm_m114 (n + 1) 94 [some (.ref a0), some (.int x1)] [] h =
  mm_gR h a0 8 1 fun p_1 =>
  mm_cI [] (cl 53 [.ref p_1] h) fun v_3 h_2 =>
  (mm_br (v_3 = (-1)) (
  mm_gR h_2 a0 8 1 fun p_4 =>
    mm_cI [] (cl 54 [.ref p_4] h_2) fun v_6 h_5 =>
    some (.inl (some (.int v_6)), h_5)) (
  some (.inl (some (.int (-2))), h_2))) := rfl
-- PS.promise
set_option maxRecDepth 20000 in
set_option maxHeartbeats 4000000 in
theorem mm_e115_0 (E : mm_E) (cl : mm_F) (n : Nat) (a0 : Nat) (x1 : Int32) (x2 : Int32) (h : mm_H) :
  mm_run E cl mm_m115 (n + 1) 0 [some (.ref a0), some (.int x1), some (.int x2), none] [] h =
  mm_cV [] (cl 133 [.ref a0, .int x1] h) fun h_1 =>
  mm_cV [] (cl 136 [.int x2] h_1) fun h_2 =>
  mm_gR h_2 a0 8 1 fun p_3 =>
  mm_gR h_2 p_3 3 4 fun p_4 =>
  mm_rI E h_2 p_4 x1 fun v_5 =>
  mm_gR h_2 a0 8 1 fun p_6 =>
  mm_gR h_2 p_6 3 4 fun p_7 =>
  mm_wI h_2 p_7 x1 x2 fun h_8 =>
  some (.inl (some (.int v_5)), h_8) := rfl
-- PS.planned
set_option maxRecDepth 20000 in
set_option maxHeartbeats 4000000 in
theorem mm_e116_0 (E : mm_E) (cl : mm_F) (n : Nat) (a0 : Nat) (x1 : Int32) (x2 : Int32) (h : mm_H) :
  mm_run E cl mm_m116 (n + 1) 0 [some (.ref a0), some (.int x1), some (.int x2)] [] h =
  mm_cV [] (cl 133 [.ref a0, .int x1] h) fun h_1 =>
  mm_cV [] (cl 134 [.int x2, .int 6] h_1) fun h_2 =>
  mm_gR h_2 a0 8 1 fun p_3 =>
  mm_cI [] (cl 52 [.ref p_3, .int x1, .int x2] h_2) fun v_5 h_4 =>
  some (.inl (some (.int v_5)), h_4) := rfl
-- PS.plan
set_option maxRecDepth 20000 in
set_option maxHeartbeats 4000000 in
theorem mm_e117_0 (E : mm_E) (cl : mm_F) (n : Nat) (a0 : Nat) (x1 : Int32) (h : mm_H) :
  mm_run E cl mm_m117 (n + 1) 0 [some (.ref a0), some (.int x1)] [] h =
  mm_cV [] (cl 134 [.int x1, .int 3] h) fun h_1 =>
  (mm_br (x1 = 0) (
  mm_gR h_1 a0 8 1 fun p_8 =>
    mm_cI [] (cl 53 [.ref p_8] h_1) fun v_10 h_9 =>
    (mm_br (v_10 = (-1)) (
    mm_gR h_9 a0 8 1 fun p_11 =>
      mm_cI [] (cl 54 [.ref p_11] h_9) fun v_13 h_12 =>
      some (.inl (some (.int v_13)), h_12)) (
    some (.inl (some (.int (-1))), h_9)))) (
  (mm_br (x1 = 1) (
  mm_gR h_1 a0 8 1 fun p_5 =>
    mm_cI [] (cl 53 [.ref p_5] h_1) fun v_7 h_6 =>
    some (.inl (some (.int v_7)), h_6)) (
  mm_gR h_1 a0 8 1 fun p_2 =>
  mm_cI [] (cl 55 [.ref p_2] h_1) fun v_4 h_3 =>
  some (.inl (some (.int v_4)), h_3))))) := rfl
-- PS.least
set_option maxRecDepth 20000 in
set_option maxHeartbeats 4000000 in
theorem mm_e118_0 (E : mm_E) (cl : mm_F) (n : Nat) (a0 : Nat) (h : mm_H) :
  mm_run E cl mm_m118 (n + 1) 0 [some (.ref a0)] [] h =
  mm_gR h a0 8 5 fun p_1 =>
  mm_gR h a0 8 1 fun p_2 =>
  mm_cI [] (cl 5 [.ref p_1, .ref p_2] h) fun v_4 h_3 =>
  some (.inl (some (.int v_4)), h_3) := rfl
-- PS.worth
set_option maxRecDepth 20000 in
set_option maxHeartbeats 4000000 in
theorem mm_e119_0 (E : mm_E) (cl : mm_F) (n : Nat) (a0 : Nat) (x1 : Int32) (x2 : Int32) (h : mm_H) :
  mm_run E cl mm_m119 (n + 1) 0 [some (.ref a0), some (.int x1), some (.int x2), none, none, none, none, none] [] h =
  mm_cV [] (cl 133 [.ref a0, .int x1] h) fun h_1 =>
  mm_cV [] (cl 134 [.int x2, .int 3] h_1) fun h_2 =>
  (mm_br (x2 = 0) (
  mm_run E cl mm_m119 n 29 [some (.ref a0), some (.int x1), some (.int x2), none, none, none, none, none] [.int 0] h_2) (
  (mm_br (x2 = 1) (
    mm_run E cl mm_m119 n 29 [some (.ref a0), some (.int x1), some (.int x2), none, none, none, none, none] [.int 5] h_2) (
    mm_run E cl mm_m119 n 29 [some (.ref a0), some (.int x1), some (.int x2), none, none, none, none, none] [.int 6] h_2)))) := rfl
-- PS.worth
set_option maxRecDepth 20000 in
set_option maxHeartbeats 4000000 in
theorem mm_e119_29 (E : mm_E) (cl : mm_F) (n : Nat) (a0 : Nat) (x1 : Int32) (x2 : Int32) (o3 : Option Value) (o4 : Option Value) (o5 : Option Value) (o6 : Option Value) (o7 : Option Value) (s0 : Int32) (h : mm_H) :
  mm_run E cl mm_m119 (n + 1) 29 [some (.ref a0), some (.int x1), some (.int x2), o3, o4, o5, o6, o7] [.int s0] h =
  mm_gR h a0 8 1 fun p_1 =>
  mm_cI [] (cl 30 [.ref p_1, .int x1, .int s0] h) fun v_3 h_2 =>
  (mm_br (x2 = 0) (
  mm_run E cl mm_m119 n 52 [some (.ref a0), some (.int x1), some (.int x2), some (.int s0), some (.int v_3), o5, o6, o7] [.int 0, .int v_3] h_2) (
  mm_run E cl mm_m119 n 52 [some (.ref a0), some (.int x1), some (.int x2), some (.int s0), some (.int v_3), o5, o6, o7] [.int (-1), .int v_3] h_2)) := rfl
-- PS.worth
set_option maxRecDepth 20000 in
set_option maxHeartbeats 4000000 in
theorem mm_e119_52 (E : mm_E) (cl : mm_F) (n : Nat) (a0 : Nat) (x1 : Int32) (x2 : Int32) (x3 : Int32) (x4 : Int32) (o5 : Option Value) (o6 : Option Value) (o7 : Option Value) (s0 : Int32) (s1 : Int32) (h : mm_H) :
  mm_run E cl mm_m119 (n + 1) 52 [some (.ref a0), some (.int x1), some (.int x2), some (.int x3), some (.int x4), o5, o6, o7] [.int s1, .int s0] h =
  (mm_br (s0 = s1) (
  some (.inl (some (.int 0)), h)) (
  (mm_br (x2 = 0) (
    mm_run E cl mm_m119 n 81 [some (.ref a0), some (.int x1), some (.int x2), some (.int x3), some (.int x4), o5, o6, o7] [.int (x4 - 1)] h) (
    (mm_br (x2 = 1) (
      mm_run E cl mm_m119 n 81 [some (.ref a0), some (.int x1), some (.int x2), some (.int x3), some (.int x4), o5, o6, o7] [.int (x4 + 1)] h) (
      mm_run E cl mm_m119 n 81 [some (.ref a0), some (.int x1), some (.int x2), some (.int x3), some (.int x4), o5, o6, o7] [.int (-1)] h)))))) := rfl
-- PS.worth
set_option maxRecDepth 20000 in
set_option maxHeartbeats 4000000 in
theorem mm_e119_81 (E : mm_E) (cl : mm_F) (n : Nat) (a0 : Nat) (x1 : Int32) (x2 : Int32) (x3 : Int32) (x4 : Int32) (o5 : Option Value) (o6 : Option Value) (o7 : Option Value) (s0 : Int32) (h : mm_H) :
  mm_run E cl mm_m119 (n + 1) 81 [some (.ref a0), some (.int x1), some (.int x2), some (.int x3), some (.int x4), o5, o6, o7] [.int s0] h =
  mm_gR h a0 8 5 fun p_1 =>
  mm_gR h a0 8 1 fun p_2 =>
  mm_cI [] (cl 5 [.ref p_1, .ref p_2] h) fun v_4 h_3 =>
  mm_cI [] (cl 143 [.ref a0, .int x1, .int x3, .int s0] h_3) fun v_6 h_5 =>
  (mm_br (v_4 = (-1)) (
  some (.inl (some (.int (-1000000))), h_5)) (
  (mm_br (v_6 = (-1)) (
    some (.inl (some (.int (-1000000))), h_5)) (
    some (.inl (some (.int (v_4 - v_6))), h_5))))) := rfl
-- PS.even
set_option maxRecDepth 20000 in
set_option maxHeartbeats 4000000 in
theorem mm_e120_0 (E : mm_E) (cl : mm_F) (n : Nat) (a0 : Nat) (x1 : Int32) (h : mm_H) :
  mm_run E cl mm_m120 (n + 1) 0 [some (.ref a0), some (.int x1)] [] h =
  (mm_br (x1 < 0) (
  some (.inr 1, (h.1, (none, (h.2.2.1 + 1, h.2.2.2 + 6))))) (
  (mm_br (x1 ≤ 20) (
    mm_cI [] (cl 144 [.ref a0, .int x1] h) fun v_2 h_1 =>
      some (.inl (some (.int v_2)), h_1)) (
    some (.inr 1, (h.1, (none, (h.2.2.1 + 1, h.2.2.2 + 6)))))))) := rfl
-- PS.budget
set_option maxRecDepth 20000 in
set_option maxHeartbeats 4000000 in
theorem mm_e121_0 (E : mm_E) (cl : mm_F) (n : Nat) (a0 : Nat) (x1 : Int32) (h : mm_H) :
  mm_run E cl mm_m121 (n + 1) 0 [some (.ref a0), some (.int x1), none, none] [] h =
  mm_run E cl mm_m121 n 2 [some (.ref a0), some (.int x1), some (.int 0), none] [] h := rfl
-- PS.budget
set_option maxRecDepth 20000 in
set_option maxHeartbeats 4000000 in
theorem mm_e121_2 (E : mm_E) (cl : mm_F) (n : Nat) (a0 : Nat) (x1 : Int32) (x2 : Int32) (o3 : Option Value) (h : mm_H) :
  mm_run E cl mm_m121 (n + 1) 2 [some (.ref a0), some (.int x1), some (.int x2), o3] [] h =
  (mm_br (20 < x2) (
  some (.inl (some (.int (-1))), h)) (
  mm_cI [] (cl 144 [.ref a0, .int x2] h) fun v_2 h_1 =>
    (mm_br (v_2 = (-1)) (
    mm_run E cl mm_m121 n 2 [some (.ref a0), some (.int x1), some (.int (x2 + 1)), some (.int v_2)] [] h_1) (
    (mm_br (x1 < v_2) (
      mm_run E cl mm_m121 n 2 [some (.ref a0), some (.int x1), some (.int (x2 + 1)), some (.int v_2)] [] h_1) (
      some (.inl (some (.int x2)), h_1))))))) := rfl
-- PS.pinned
set_option maxRecDepth 20000 in
set_option maxHeartbeats 4000000 in
theorem mm_e122_0 (E : mm_E) (cl : mm_F) (n : Nat) (a0 : Nat) (x1 : Int32) (x2 : Int32) (h : mm_H) :
  mm_run E cl mm_m122 (n + 1) 0 [some (.ref a0), some (.int x1), some (.int x2)] [] h =
  mm_cV [] (cl 133 [.ref a0, .int x1] h) fun h_1 =>
  mm_cV [] (cl 136 [.int x2] h_1) fun h_2 =>
  mm_cI [] (cl 143 [.ref a0, .int x1, .int 6, .int x2] h_2) fun v_4 h_3 =>
  some (.inl (some (.int v_4)), h_3) := rfl
-- PS.demand
set_option maxRecDepth 20000 in
set_option maxHeartbeats 4000000 in
theorem mm_e123_0 (E : mm_E) (cl : mm_F) (n : Nat) (a0 : Nat) (x1 : Int32) (x2 : Int32) (x3 : Int32) (h : mm_H) :
  mm_run E cl mm_m123 (n + 1) 0 [some (.ref a0), some (.int x1), some (.int x2), some (.int x3), none, none] [] h =
  mm_cV [] (cl 133 [.ref a0, .int x1] h) fun h_1 =>
  mm_cV [] (cl 135 [.int x2] h_1) fun h_2 =>
  (mm_br (x3 < 0) (
  some (.inr 1, (h_2.1, (none, (h_2.2.2.1 + 1, h_2.2.2.2 + 6))))) (
  (mm_br (x3 ≤ 999) (
    mm_gR h_2 a0 8 1 fun p_3 =>
      mm_gR h_2 p_3 3 5 fun p_4 =>
      mm_rI E h_2 p_4 ((x1 * 40) + x2) fun v_5 =>
      mm_gR h_2 a0 8 1 fun p_6 =>
      mm_gR h_2 p_6 3 5 fun p_7 =>
      mm_wI h_2 p_7 ((x1 * 40) + x2) x3 fun h_8 =>
      some (.inl (some (.int v_5)), h_8)) (
    some (.inr 1, (h_2.1, (none, (h_2.2.2.1 + 1, h_2.2.2.2 + 6)))))))) := rfl
-- PS.drawn
set_option maxRecDepth 20000 in
set_option maxHeartbeats 4000000 in
theorem mm_e124_0 (E : mm_E) (cl : mm_F) (n : Nat) (a0 : Nat) (x1 : Int32) (x2 : Int32) (h : mm_H) :
  mm_run E cl mm_m124 (n + 1) 0 [some (.ref a0), some (.int x1), some (.int x2), none, none, none, none, none] [] h =
  mm_cV [] (cl 133 [.ref a0, .int x1] h) fun h_1 =>
  mm_gR h_1 a0 8 1 fun p_2 =>
  mm_cI [] (cl 30 [.ref p_2, .int x1, .int 3] h_1) fun v_4 h_3 =>
  mm_run E cl mm_m124 n 28 [some (.ref a0), some (.int x1), some (.int x2), some (.int ((2 * v_4) + 1)), some (.int x2), some (.int 0), some (.int 0), none] [] h_3 := rfl
-- PS.drawn
set_option maxRecDepth 20000 in
set_option maxHeartbeats 4000000 in
theorem mm_e124_28 (E : mm_E) (cl : mm_F) (n : Nat) (a0 : Nat) (x1 : Int32) (x2 : Int32) (x3 : Int32) (x4 : Int32) (x5 : Int32) (x6 : Int32) (o7 : Option Value) (h : mm_H) :
  mm_run E cl mm_m124 (n + 1) 28 [some (.ref a0), some (.int x1), some (.int x2), some (.int x3), some (.int x4), some (.int x5), some (.int x6), o7] [] h =
  (mm_br (40 ≤ x6) (
  some (.inl (some (.int x5)), h)) (
  (mm_br (x3 ≤ 0) (
    mm_gR h a0 8 1 fun p_1 =>
      mm_gR h p_1 3 5 fun p_2 =>
      mm_wI h p_2 ((x1 * 40) + x6) 0 fun h_3 =>
      mm_run E cl mm_m124 n 28 [some (.ref a0), some (.int x1), some (.int x2), some (.int x3), some (.int ((x4 * 1103515245) + 12345)), some (.int (x5 + 0)), some (.int (x6 + 1)), some (.int 0)] [] h_3) (
    (mm_nz x3 (
      mm_gR h a0 8 1 fun p_4 =>
      mm_gR h p_4 3 5 fun p_5 =>
      mm_wI h p_5 ((x1 * 40) + x6) (((((((x4 * 1103515245) + 12345)).toUInt32 >>> ((16 : Int32).toUInt32 &&& Int32.toUInt32 31)).toInt32) &&& 32767) - ((((((x4 * 1103515245) + 12345)).toUInt32 >>> ((16 : Int32).toUInt32 &&& Int32.toUInt32 31)).toInt32) &&& 32767) / x3 * x3) fun h_6 =>
      mm_run E cl mm_m124 n 28 [some (.ref a0), some (.int x1), some (.int x2), some (.int x3), some (.int ((x4 * 1103515245) + 12345)), some (.int (x5 + (((((((x4 * 1103515245) + 12345)).toUInt32 >>> ((16 : Int32).toUInt32 &&& Int32.toUInt32 31)).toInt32) &&& 32767) - ((((((x4 * 1103515245) + 12345)).toUInt32 >>> ((16 : Int32).toUInt32 &&& Int32.toUInt32 31)).toInt32) &&& 32767) / x3 * x3))), some (.int (x6 + 1)), some (.int (((((((x4 * 1103515245) + 12345)).toUInt32 >>> ((16 : Int32).toUInt32 &&& Int32.toUInt32 31)).toInt32) &&& 32767) - ((((((x4 * 1103515245) + 12345)).toUInt32 >>> ((16 : Int32).toUInt32 &&& Int32.toUInt32 31)).toInt32) &&& 32767) / x3 * x3))] [] h_6)))))) := rfl
