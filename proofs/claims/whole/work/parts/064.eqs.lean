/-! EQUATIONS of the runs (by program: wip/whole/eqgen.py) -/
-- PS.day
set_option maxRecDepth 20000 in
set_option maxHeartbeats 4000000 in
theorem mm_e125_0 (E : mm_E) (cl : mm_F) (n : Nat) (a0 : Nat) (x1 : Int32) (x2 : Int32) (x3 : Int32) (h : mm_H) :
  mm_run E cl mm_m125 (n + 1) 0 [some (.ref a0), some (.int x1), some (.int x2), some (.int x3)] [] h =
  mm_cV [] (cl 133 [.ref a0, .int x1] h) fun h_1 =>
  mm_cV [] (cl 135 [.int x2] h_1) fun h_2 =>
  mm_cV [] (cl 134 [.int x3, .int 4] h_2) fun h_3 =>
  mm_gR h_3 a0 8 6 fun p_4 =>
  mm_gR h_3 a0 8 1 fun p_5 =>
  mm_cV [] (cl 20 [.ref p_4, .ref p_5, .int x1] h_3) fun h_6 =>
  (mm_br (x3 = 0) (
  mm_gR h_6 a0 8 1 fun p_21 =>
    mm_gR h_6 p_21 3 5 fun p_22 =>
    mm_rI E h_6 p_22 ((x1 * 40) + x2) fun v_23 =>
    some (.inl (some (.int v_23)), h_6)) (
  (mm_br (x3 = 1) (
  mm_gR h_6 a0 8 6 fun p_18 =>
    mm_cI [] (cl 22 [.ref p_18, .int x2, .int x2] h_6) fun v_20 h_19 =>
    some (.inl (some (.int v_20)), h_19)) (
  (mm_br (x3 = 2) (
  mm_gR h_6 a0 8 6 fun p_13 =>
    mm_gI h_6 p_13 2 2 fun v_14 =>
    (mm_br (0 ≤ v_14) (
    mm_gR h_6 a0 8 6 fun p_15 =>
      mm_cI [] (cl 23 [.ref p_15, .int x2] h_6) fun v_17 h_16 =>
      some (.inl (some (.int v_17)), h_16)) (
    some (.inl (some (.int (-1000000))), h_6)))) (
  mm_gR h_6 a0 8 6 fun p_7 =>
  mm_gR h_6 a0 8 1 fun p_8 =>
  mm_cV [] (cl 21 [.ref p_7, .ref p_8, .int x1] h_6) fun h_9 =>
  mm_gR h_9 a0 8 6 fun p_10 =>
  mm_cI [] (cl 24 [.ref p_10, .int x2] h_9) fun v_12 h_11 =>
  some (.inl (some (.int v_12)), h_11))))))) := rfl
-- PS.days
set_option maxRecDepth 20000 in
set_option maxHeartbeats 4000000 in
theorem mm_e126_0 (E : mm_E) (cl : mm_F) (n : Nat) (a0 : Nat) (x1 : Int32) (x2 : Int32) (h : mm_H) :
  mm_run E cl mm_m126 (n + 1) 0 [some (.ref a0), some (.int x1), some (.int x2)] [] h =
  mm_cV [] (cl 133 [.ref a0, .int x1] h) fun h_1 =>
  mm_cV [] (cl 134 [.int x2, .int 3] h_1) fun h_2 =>
  mm_gR h_2 a0 8 6 fun p_3 =>
  mm_gR h_2 a0 8 1 fun p_4 =>
  mm_cV [] (cl 20 [.ref p_3, .ref p_4, .int x1] h_2) fun h_5 =>
  (mm_br (x2 = 1) (
  mm_gR h_5 a0 8 6 fun p_14 =>
    mm_gR h_5 a0 8 1 fun p_15 =>
    mm_cV [] (cl 21 [.ref p_14, .ref p_15, .int x1] h_5) fun h_16 =>
    mm_gR h_16 a0 8 6 fun p_17 =>
    mm_cI [] (cl 25 [.ref p_17] h_16) fun v_19 h_18 =>
    some (.inl (some (.int v_19)), h_18)) (
  mm_gR h_5 a0 8 6 fun p_6 =>
    mm_gI h_5 p_6 2 2 fun v_7 =>
    (mm_br (0 ≤ v_7) (
    (mm_br (x2 = 0) (
      mm_gR h_5 a0 8 6 fun p_11 =>
        mm_cI [] (cl 26 [.ref p_11] h_5) fun v_13 h_12 =>
        some (.inl (some (.int v_13)), h_12)) (
      mm_gR h_5 a0 8 6 fun p_8 =>
        mm_cI [] (cl 27 [.ref p_8] h_5) fun v_10 h_9 =>
        some (.inl (some (.int v_10)), h_9)))) (
    (mm_br (x2 = 0) (
      some (.inl (some (.int (-1))), h_5)) (
      some (.inl (some (.int (-1000000))), h_5))))))) := rfl
-- PS.ask
set_option maxRecDepth 20000 in
set_option maxHeartbeats 4000000 in
theorem mm_e127_0 (E : mm_E) (cl : mm_F) (n : Nat) (a0 : Nat) (x1 : Int32) (h : mm_H) :
  mm_run E cl mm_m127 (n + 1) 0 [some (.ref a0), some (.int x1), none] [] h =
  (mm_br (x1 < 0) (
  some (.inr 1, (h.1, (none, (h.2.2.1 + 1, h.2.2.2 + 6))))) (
  (mm_br (200 < x1) (
    some (.inr 1, (h.1, (none, (h.2.2.1 + 1, h.2.2.2 + 6))))) (
    mm_gR h a0 8 0 fun p_1 =>
      mm_gI h p_1 7 1 fun v_2 =>
      (mm_br (x1 ≤ v_2) (
      mm_gR h a0 8 8 fun p_3 =>
        mm_cI [] (cl 63 [.ref p_3, .int x1] h) fun v_5 h_4 =>
        mm_cV [] (cl 138 [.ref a0, .int v_5] h_4) fun h_6 =>
        (mm_br (v_5 = 0) (
        mm_gR h_6 a0 8 8 fun p_7 =>
          mm_cI [] (cl 71 [.ref p_7] h_6) fun v_9 h_8 =>
          some (.inl (some (.int v_9)), h_8)) (
        some (.inl (some (.int ((-1000000000) - v_5))), h_6)))) (
      some (.inr 1, (h.1, (none, (h.2.2.1 + 1, h.2.2.2 + 6)))))))))) := rfl
-- PS.chain
set_option maxRecDepth 20000 in
set_option maxHeartbeats 4000000 in
theorem mm_e128_0 (E : mm_E) (cl : mm_F) (n : Nat) (a0 : Nat) (x1 : Int32) (x2 : Int32) (h : mm_H) :
  mm_run E cl mm_m128 (n + 1) 0 [some (.ref a0), some (.int x1), some (.int x2), none, none, none] [] h =
  mm_cV [] (cl 133 [.ref a0, .int x1] h) fun h_1 =>
  mm_run E cl mm_m128 n 13 [some (.ref a0), some (.int x1), some (.int x2), some (.int x1), some (.int 0), some (.int 0)] [] h_1 := rfl
-- PS.chain
set_option maxRecDepth 20000 in
set_option maxHeartbeats 4000000 in
theorem mm_e128_13 (E : mm_E) (cl : mm_F) (n : Nat) (a0 : Nat) (x1 : Int32) (x2 : Int32) (x3 : Int32) (x4 : Int32) (x5 : Int32) (h : mm_H) :
  mm_run E cl mm_m128 (n + 1) 13 [some (.ref a0), some (.int x1), some (.int x2), some (.int x3), some (.int x4), some (.int x5)] [] h =
  (mm_br (12 ≤ x5) (
  (mm_br (x2 = (-1)) (
    some (.inl (some (.int x4)), h)) (
    some (.inr 0, (h.1, (none, (h.2.2.1 + 1, h.2.2.2 + 6))))))) (
  (mm_br (x3 = (-1)) (
    (mm_br (x2 = (-1)) (
      some (.inl (some (.int x4)), h)) (
      some (.inr 0, (h.1, (none, (h.2.2.1 + 1, h.2.2.2 + 6))))))) (
    (mm_br (x4 = x2) (
      some (.inl (some (.int x3)), h)) (
      mm_gR h a0 8 1 fun p_1 =>
        mm_cI [] (cl 60 [.ref p_1, .int x3] h) fun v_3 h_2 =>
        mm_run E cl mm_m128 n 13 [some (.ref a0), some (.int x1), some (.int x2), some (.int v_3), some (.int (x4 + 1)), some (.int (x5 + 1))] [] h_2)))))) := rfl
-- PS.frontier
set_option maxRecDepth 20000 in
set_option maxHeartbeats 4000000 in
theorem mm_e129_0 (E : mm_E) (cl : mm_F) (n : Nat) (a0 : Nat) (x1 : Int32) (h : mm_H) :
  mm_run E cl mm_m129 (n + 1) 0 [some (.ref a0), some (.int x1), none, none, none, none] [] h =
  (mm_br (x1 < (-1)) (
  some (.inr 0, (h.1, (none, (h.2.2.1 + 1, h.2.2.2 + 6))))) (
  (mm_br (x1 ≤ 20) (
    mm_run E cl mm_m129 n 29 [some (.ref a0), some (.int x1), some (.int 0), some (.int (-1)), some (.int 0), none] [] h) (
    some (.inr 0, (h.1, (none, (h.2.2.1 + 1, h.2.2.2 + 6)))))))) := rfl
-- PS.frontier
set_option maxRecDepth 20000 in
set_option maxHeartbeats 4000000 in
theorem mm_e129_29 (E : mm_E) (cl : mm_F) (n : Nat) (a0 : Nat) (x1 : Int32) (x2 : Int32) (x3 : Int32) (x4 : Int32) (o5 : Option Value) (h : mm_H) :
  mm_run E cl mm_m129 (n + 1) 29 [some (.ref a0), some (.int x1), some (.int x2), some (.int x3), some (.int x4), o5] [] h =
  (mm_br (20 < x4) (
  (mm_br (x1 = (-1)) (
    some (.inl (some (.int x2)), h)) (
    some (.inr 0, (h.1, (none, (h.2.2.1 + 1, h.2.2.2 + 6))))))) (
  mm_cI [] (cl 144 [.ref a0, .int x4] h) fun v_2 h_1 =>
    (mm_br (v_2 = (-1)) (
    mm_run E cl mm_m129 n 29 [some (.ref a0), some (.int x1), some (.int x2), some (.int x3), some (.int (x4 + 1)), some (.int v_2)] [] h_1) (
    (mm_br (x3 = (-1)) (
      (mm_br (x2 = x1) (
        some (.inl (some (.int x4)), h_1)) (
        mm_run E cl mm_m129 n 29 [some (.ref a0), some (.int x1), some (.int (x2 + 1)), some (.int v_2), some (.int (x4 + 1)), some (.int v_2)] [] h_1))) (
      (mm_br (x3 ≤ v_2) (
        mm_run E cl mm_m129 n 29 [some (.ref a0), some (.int x1), some (.int x2), some (.int x3), some (.int (x4 + 1)), some (.int v_2)] [] h_1) (
        (mm_br (x2 = x1) (
          some (.inl (some (.int x4)), h_1)) (
          mm_run E cl mm_m129 n 29 [some (.ref a0), some (.int x1), some (.int (x2 + 1)), some (.int v_2), some (.int (x4 + 1)), some (.int v_2)] [] h_1)))))))))) := rfl
-- PS.image
set_option maxRecDepth 20000 in
set_option maxHeartbeats 4000000 in
theorem mm_e130_0 (E : mm_E) (cl : mm_F) (n : Nat) (a0 : Nat) (h : mm_H) :
  mm_run E cl mm_m130 (n + 1) 0 [some (.ref a0)] [] h =
  mm_gR h a0 8 3 fun p_1 =>
  mm_gR h a0 8 1 fun p_2 =>
  mm_cV [] (cl 34 [.ref p_1, .ref p_2] h) fun h_3 =>
  (mm_bz 1 (
  mm_pF h_3 a0 8 12 (.int 1) fun h_4 =>
  some (.inl none, h_4))) := rfl
-- PS.back
set_option maxRecDepth 20000 in
set_option maxHeartbeats 4000000 in
theorem mm_e131_0 (E : mm_E) (cl : mm_F) (n : Nat) (a0 : Nat) (h : mm_H) :
  mm_run E cl mm_m131 (n + 1) 0 [some (.ref a0)] [] h =
  mm_gI h a0 8 12 fun v_1 =>
  (mm_br (v_1 = 0) (
  (mm_bz 0 (some (.inl (some (.int 0)), h)))) (
  mm_gR h a0 8 1 fun p_2 =>
    mm_gR h a0 8 3 fun p_3 =>
    mm_cV [] (cl 34 [.ref p_2, .ref p_3] h) fun h_4 =>
    mm_gR h_4 a0 8 4 fun p_5 =>
    mm_cV [] (cl 3 [.ref p_5] h_4) fun h_6 =>
    (mm_bz 1 (some (.inl (some (.int 1)), h_6))))) := rfl
-- PS.isStage
set_option maxRecDepth 20000 in
set_option maxHeartbeats 4000000 in
theorem mm_e132_0 (E : mm_E) (cl : mm_F) (n : Nat) (a0 : Nat) (x1 : Int32) (h : mm_H) :
  mm_run E cl mm_m132 (n + 1) 0 [some (.ref a0), some (.int x1)] [] h =
  (mm_br (x1 < 0) (
  (mm_bz 0 (some (.inl (some (.int 0)), h)))) (
  mm_gR h a0 8 1 fun p_1 =>
    mm_gI h p_1 3 10 fun v_2 =>
    (mm_br (v_2 ≤ x1) (
    (mm_bz 0 (some (.inl (some (.int 0)), h)))) (
    (mm_bz 1 (some (.inl (some (.int 1)), h))))))) := rfl
-- PS.checkStage
set_option maxRecDepth 20000 in
set_option maxHeartbeats 4000000 in
theorem mm_e133_0 (E : mm_E) (cl : mm_F) (n : Nat) (a0 : Nat) (x1 : Int32) (h : mm_H) :
  mm_run E cl mm_m133 (n + 1) 0 [some (.ref a0), some (.int x1)] [] h =
  mm_cI [] (cl 132 [.ref a0, .int x1] h) fun v_2 h_1 =>
  (mm_br (v_2 = 0) (
  some (.inr 0, (h_1.1, (none, (h_1.2.2.1 + 1, h_1.2.2.2 + 6))))) (
  some (.inl none, h_1))) := rfl
-- PS.checkWhat
set_option maxRecDepth 20000 in
set_option maxHeartbeats 4000000 in
theorem mm_e134_0 (E : mm_E) (cl : mm_F) (n : Nat) (x0 : Int32) (x1 : Int32) (h : mm_H) :
  mm_run E cl mm_m134 (n + 1) 0 [some (.int x0), some (.int x1)] [] h =
  (mm_br (x0 < 0) (
  some (.inr 0, (h.1, (none, (h.2.2.1 + 1, h.2.2.2 + 6))))) (
  (mm_br (x0 < x1) (
    some (.inl none, h)) (
    some (.inr 0, (h.1, (none, (h.2.2.1 + 1, h.2.2.2 + 6)))))))) := rfl
-- PS.checkDay
set_option maxRecDepth 20000 in
set_option maxHeartbeats 4000000 in
theorem mm_e135_0 (E : mm_E) (cl : mm_F) (n : Nat) (x0 : Int32) (h : mm_H) :
  mm_run E cl mm_m135 (n + 1) 0 [some (.int x0)] [] h =
  (mm_br (x0 < 0) (
  some (.inr 0, (h.1, (none, (h.2.2.1 + 1, h.2.2.2 + 6))))) (
  (mm_br (x0 < 40) (
    some (.inl none, h)) (
    some (.inr 0, (h.1, (none, (h.2.2.1 + 1, h.2.2.2 + 6)))))))) := rfl
-- PS.checkTime
set_option maxRecDepth 20000 in
set_option maxHeartbeats 4000000 in
theorem mm_e136_0 (E : mm_E) (cl : mm_F) (n : Nat) (x0 : Int32) (h : mm_H) :
  mm_run E cl mm_m136 (n + 1) 0 [some (.int x0)] [] h =
  (mm_br (x0 < 0) (
  some (.inr 1, (h.1, (none, (h.2.2.1 + 1, h.2.2.2 + 6))))) (
  (mm_br (x0 < 120) (
    some (.inl none, h)) (
    some (.inr 1, (h.1, (none, (h.2.2.1 + 1, h.2.2.2 + 6)))))))) := rfl
-- PS.fits
set_option maxRecDepth 20000 in
set_option maxHeartbeats 4000000 in
theorem mm_e137_0 (E : mm_E) (cl : mm_F) (n : Nat) (x0 : Int32) (x1 : Int32) (h : mm_H) :
  mm_run E cl mm_m137 (n + 1) 0 [some (.int x0), some (.int x1), none] [] h =
  (mm_br (x0 = 5) (
  mm_run E cl mm_m137 n 16 [some (.int x0), some (.int x1), none] [.int (-1)] h) (
  (mm_br (x0 = 6) (
    mm_run E cl mm_m137 n 16 [some (.int x0), some (.int x1), none] [.int (-1)] h) (
    mm_run E cl mm_m137 n 16 [some (.int x0), some (.int x1), none] [.int 0] h)))) := rfl
-- PS.fits
set_option maxRecDepth 20000 in
set_option maxHeartbeats 4000000 in
theorem mm_e137_16 (E : mm_E) (cl : mm_F) (n : Nat) (x0 : Int32) (x1 : Int32) (o2 : Option Value) (s0 : Int32) (h : mm_H) :
  mm_run E cl mm_m137 (n + 1) 16 [some (.int x0), some (.int x1), o2] [.int s0] h =
  (mm_br (x0 < 0) (
  (mm_bz 0 (some (.inl (some (.int 0)), h)))) (
  mm_ln E h E.2.1 fun v_1 =>
    (mm_br (v_1 ≤ x0) (
    (mm_bz 0 (some (.inl (some (.int 0)), h)))) (
    (mm_br (x1 < s0) (
      (mm_bz 0 (some (.inl (some (.int 0)), h)))) (
      mm_rI E h E.2.1 x0 fun v_2 =>
        (mm_br (v_2 < x1) (
        (mm_bz 0 (some (.inl (some (.int 0)), h)))) (
        (mm_bz 1 (some (.inl (some (.int 1)), h))))))))))) := rfl
-- PS.endReading
set_option maxRecDepth 20000 in
set_option maxHeartbeats 4000000 in
theorem mm_e138_0 (E : mm_E) (cl : mm_F) (n : Nat) (a0 : Nat) (x1 : Int32) (h : mm_H) :
  mm_run E cl mm_m138 (n + 1) 0 [some (.ref a0), some (.int x1)] [] h =
  (mm_br (x1 = 0) (
  mm_pF h a0 8 13 (.int (-1)) fun h_6 =>
    mm_gR h_6 a0 8 0 fun p_7 =>
    mm_pF h_6 p_7 7 1 (.int 0) fun h_8 =>
    some (.inl none, h_8)) (
  mm_gR h a0 8 0 fun p_1 =>
    mm_gI h p_1 7 3 fun v_2 =>
    mm_pF h a0 8 13 (.int v_2) fun h_3 =>
    mm_gR h_3 a0 8 0 fun p_4 =>
    mm_pF h_3 p_4 7 1 (.int 0) fun h_5 =>
    some (.inl none, h_5))) := rfl
-- PS.changeZ
set_option maxRecDepth 20000 in
set_option maxHeartbeats 4000000 in
theorem mm_e139_0 (E : mm_E) (cl : mm_F) (n : Nat) (a0 : Nat) (x1 : Int32) (h : mm_H) :
  mm_run E cl mm_m139 (n + 1) 0 [some (.ref a0), some (.int x1), none] [] h =
  (mm_br (x1 < 0) (
  some (.inr 1, (h.1, (none, (h.2.2.1 + 1, h.2.2.2 + 6))))) (
  (mm_br (x1 ≤ 400) (
    mm_gR h a0 8 1 fun p_1 =>
      mm_gI h p_1 3 11 fun v_2 =>
      mm_gR h a0 8 1 fun p_3 =>
      mm_pF h p_3 3 11 (.int x1) fun h_4 =>
      mm_gR h_4 a0 8 1 fun p_5 =>
      mm_cV [] (cl 43 [.ref p_5] h_4) fun h_6 =>
      mm_gR h_6 a0 8 4 fun p_7 =>
      mm_cV [] (cl 1 [.ref p_7, .int 7, .int 0, .int v_2] h_6) fun h_8 =>
      some (.inl (some (.int v_2)), h_8)) (
    some (.inr 1, (h.1, (none, (h.2.2.1 + 1, h.2.2.2 + 6)))))))) := rfl
-- PS.changeTold
set_option maxRecDepth 20000 in
set_option maxHeartbeats 4000000 in
theorem mm_e140_0 (E : mm_E) (cl : mm_F) (n : Nat) (a0 : Nat) (x1 : Int32) (x2 : Int32) (x3 : Int32) (h : mm_H) :
  mm_run E cl mm_m140 (n + 1) 0 [some (.ref a0), some (.int x1), some (.int x2), some (.int x3), none] [] h =
  mm_cI [] (cl 137 [.int x2, .int x3] h) fun v_2 h_1 =>
  (mm_br (v_2 = 0) (
  some (.inr 1, (h_1.1, (none, (h_1.2.2.1 + 1, h_1.2.2.2 + 6))))) (
  mm_gR h_1 a0 8 1 fun p_3 =>
    mm_cI [] (cl 30 [.ref p_3, .int x1, .int x2] h_1) fun v_5 h_4 =>
    mm_gR h_4 a0 8 1 fun p_6 =>
    mm_cV [] (cl 31 [.ref p_6, .int x1, .int x2, .int x3] h_4) fun h_7 =>
    mm_gR h_7 a0 8 1 fun p_8 =>
    mm_cV [] (cl 43 [.ref p_8] h_7) fun h_9 =>
    mm_gR h_9 a0 8 4 fun p_10 =>
    mm_cV [] (cl 1 [.ref p_10, .int x2, .int x1, .int v_5] h_9) fun h_11 =>
    some (.inl (some (.int v_5)), h_11))) := rfl
-- PS.takeBack
set_option maxRecDepth 20000 in
set_option maxHeartbeats 4000000 in
theorem mm_e141_0 (E : mm_E) (cl : mm_F) (n : Nat) (a0 : Nat) (x1 : Int32) (x2 : Int32) (x3 : Int32) (h : mm_H) :
  mm_run E cl mm_m141 (n + 1) 0 [some (.ref a0), some (.int x1), some (.int x2), some (.int x3)] [] h =
  (mm_br (x1 = 7) (
  mm_gR h a0 8 1 fun p_7 =>
    mm_pF h p_7 3 11 (.int x3) fun h_8 =>
    some (.inl none, h_8)) (
  (mm_br (x1 = 8) (
  mm_gR h a0 8 1 fun p_5 =>
    mm_cV [] (cl 37 [.ref p_5] h) fun h_6 =>
    some (.inl none, h_6)) (
  (mm_br (x1 = 9) (
  mm_gR h a0 8 1 fun p_3 =>
    mm_cV [] (cl 39 [.ref p_3, .int x2, .int x3] h) fun h_4 =>
    some (.inl none, h_4)) (
  mm_gR h a0 8 1 fun p_1 =>
  mm_cV [] (cl 31 [.ref p_1, .int x2, .int x1, .int x3] h) fun h_2 =>
  some (.inl none, h_2))))))) := rfl
-- PS.takeBest
set_option maxRecDepth 20000 in
set_option maxHeartbeats 4000000 in
theorem mm_e142_0 (E : mm_E) (cl : mm_F) (n : Nat) (a0 : Nat) (h : mm_H) :
  mm_run E cl mm_m142 (n + 1) 0 [some (.ref a0), none] [] h =
  mm_run E cl mm_m142 n 2 [some (.ref a0), some (.int 0)] [] h := rfl
-- PS.takeBest
set_option maxRecDepth 20000 in
set_option maxHeartbeats 4000000 in
theorem mm_e142_2 (E : mm_E) (cl : mm_F) (n : Nat) (a0 : Nat) (x1 : Int32) (h : mm_H) :
  mm_run E cl mm_m142 (n + 1) 2 [some (.ref a0), some (.int x1)] [] h =
  mm_gR h a0 8 1 fun p_1 =>
  mm_gI h p_1 3 10 fun v_2 =>
  (mm_br (v_2 ≤ x1) (
  some (.inl none, h)) (
  mm_gR h a0 8 1 fun p_3 =>
    mm_gR h p_3 3 4 fun p_4 =>
    mm_gR h a0 8 5 fun p_5 =>
    mm_cI [] (cl 6 [.ref p_5, .int x1] h) fun v_7 h_6 =>
    mm_wI h_6 p_4 x1 v_7 fun h_8 =>
    mm_run E cl mm_m142 n 2 [some (.ref a0), some (.int (x1 + 1))] [] h_8)) := rfl
-- PS.priceWith
set_option maxRecDepth 20000 in
set_option maxHeartbeats 4000000 in
theorem mm_e143_0 (E : mm_E) (cl : mm_F) (n : Nat) (a0 : Nat) (x1 : Int32) (x2 : Int32) (x3 : Int32) (h : mm_H) :
  mm_run E cl mm_m143 (n + 1) 0 [some (.ref a0), some (.int x1), some (.int x2), some (.int x3)] [] h =
  mm_gR h a0 8 2 fun p_1 =>
  mm_gR h a0 8 1 fun p_2 =>
  mm_cV [] (cl 35 [.ref p_1, .ref p_2] h) fun h_3 =>
  mm_gR h_3 a0 8 2 fun p_4 =>
  mm_cV [] (cl 31 [.ref p_4, .int x1, .int x2, .int x3] h_3) fun h_5 =>
  mm_gR h_5 a0 8 2 fun p_6 =>
  mm_cV [] (cl 43 [.ref p_6] h_5) fun h_7 =>
  mm_gR h_7 a0 8 5 fun p_8 =>
  mm_gR h_7 a0 8 2 fun p_9 =>
  mm_cI [] (cl 5 [.ref p_8, .ref p_9] h_7) fun v_11 h_10 =>
  some (.inl (some (.int v_11)), h_10) := rfl
-- PS.evenPrice
set_option maxRecDepth 20000 in
set_option maxHeartbeats 4000000 in
theorem mm_e144_0 (E : mm_E) (cl : mm_F) (n : Nat) (a0 : Nat) (x1 : Int32) (h : mm_H) :
  mm_run E cl mm_m144 (n + 1) 0 [some (.ref a0), some (.int x1), none] [] h =
  mm_gI h a0 8 11 fun v_1 =>
  mm_gR h a0 8 1 fun p_2 =>
  mm_gI h p_2 3 12 fun v_3 =>
  (mm_br (v_1 = v_3) (
  mm_gI h a0 8 10 fun v_4 =>
    mm_cI [] (cl 61 [.int v_4, .int x1] h) fun v_6 h_5 =>
    (mm_br (v_6 = 0) (
    mm_gR h_5 a0 8 2 fun p_9 =>
      mm_gR h_5 a0 8 1 fun p_10 =>
      mm_cV [] (cl 35 [.ref p_9, .ref p_10] h_5) fun h_11 =>
      mm_run E cl mm_m144 n 54 [some (.ref a0), some (.int x1), some (.int 0)] [] h_11) (
    mm_gR h_5 a0 8 9 fun p_7 =>
      mm_rI E h_5 p_7 x1 fun v_8 =>
      some (.inl (some (.int v_8)), h_5)))) (
  mm_gR h a0 8 1 fun p_12 =>
    mm_gI h p_12 3 12 fun v_13 =>
    mm_pF h a0 8 11 (.int v_13) fun h_14 =>
    mm_pF h_14 a0 8 10 (.int 0) fun h_15 =>
    mm_gI h_15 a0 8 10 fun v_16 =>
    mm_cI [] (cl 61 [.int v_16, .int x1] h_15) fun v_18 h_17 =>
    (mm_br (v_18 = 0) (
    mm_gR h_17 a0 8 2 fun p_21 =>
      mm_gR h_17 a0 8 1 fun p_22 =>
      mm_cV [] (cl 35 [.ref p_21, .ref p_22] h_17) fun h_23 =>
      mm_run E cl mm_m144 n 54 [some (.ref a0), some (.int x1), some (.int 0)] [] h_23) (
    mm_gR h_17 a0 8 9 fun p_19 =>
      mm_rI E h_17 p_19 x1 fun v_20 =>
      some (.inl (some (.int v_20)), h_17))))) := rfl
-- PS.evenPrice
set_option maxRecDepth 20000 in
set_option maxHeartbeats 4000000 in
theorem mm_e144_54 (E : mm_E) (cl : mm_F) (n : Nat) (a0 : Nat) (x1 : Int32) (x2 : Int32) (h : mm_H) :
  mm_run E cl mm_m144 (n + 1) 54 [some (.ref a0), some (.int x1), some (.int x2)] [] h =
  mm_gR h a0 8 2 fun p_1 =>
  mm_gI h p_1 3 10 fun v_2 =>
  (mm_br (v_2 ≤ x2) (
  mm_gR h a0 8 9 fun p_3 =>
    mm_gR h a0 8 5 fun p_4 =>
    mm_gR h a0 8 2 fun p_5 =>
    mm_cI [] (cl 5 [.ref p_4, .ref p_5] h) fun v_7 h_6 =>
    mm_wI h_6 p_3 x1 v_7 fun h_8 =>
    mm_gI h_8 a0 8 10 fun v_9 =>
    mm_pF h_8 a0 8 10 (.int (v_9 ||| (1 <<< (x1 &&& 31)))) fun h_10 =>
    mm_gR h_10 a0 8 9 fun p_11 =>
    mm_rI E h_10 p_11 x1 fun v_12 =>
    some (.inl (some (.int v_12)), h_10)) (
  mm_gR h a0 8 2 fun p_13 =>
    mm_gR h a0 8 2 fun p_14 =>
    mm_gR h p_14 3 3 fun p_15 =>
    mm_rI E h p_15 x2 fun v_16 =>
    (mm_br (v_16 = 0) (
    mm_cV [] (cl 31 [.ref p_13, .int x2, .int 5, .int x1] h) fun h_18 =>
      mm_run E cl mm_m144 n 54 [some (.ref a0), some (.int x1), some (.int (x2 + 1))] [] h_18) (
    mm_cV [] (cl 31 [.ref p_13, .int x2, .int 5, .int (-1)] h) fun h_17 =>
      mm_run E cl mm_m144 n 54 [some (.ref a0), some (.int x1), some (.int (x2 + 1))] [] h_17)))) := rfl
-- Mod.thrown
set_option maxRecDepth 20000 in
set_option maxHeartbeats 4000000 in
theorem mm_e145_0 (E : mm_E) (cl : mm_F) (n : Nat) (a0 : Nat) (h : mm_H) :
  mm_run E cl mm_m145 (n + 1) 0 [some (.ref a0)] [] h =
  mm_gI h a0 9 0 fun v_1 =>
  some (.inl (some (.int v_1)), h) := rfl
-- Mod.fail
set_option maxRecDepth 20000 in
set_option maxHeartbeats 4000000 in
theorem mm_e146_0 (E : mm_E) (cl : mm_F) (n : Nat) (a0 : Nat) (x1 : Int32) (h : mm_H) :
  mm_run E cl mm_m146 (n + 1) 0 [some (.ref a0), some (.int x1)] [] h =
  mm_pF h a0 9 0 (.int x1) fun h_1 =>
  some (.inl (some (.int 0)), h_1) := rfl
-- Mod.isIn
set_option maxRecDepth 20000 in
set_option maxHeartbeats 4000000 in
theorem mm_e147_0 (E : mm_E) (cl : mm_F) (n : Nat) (x0 : Int32) (x1 : Int32) (x2 : Int32) (h : mm_H) :
  mm_run E cl mm_m147 (n + 1) 0 [some (.int x0), some (.int x1), some (.int x2)] [] h =
  (mm_br (x0 < x1) (
  (mm_bz 0 (some (.inl (some (.int 0)), h)))) (
  (mm_br (x2 < x0) (
    (mm_bz 0 (some (.inl (some (.int 0)), h)))) (
    (mm_bz 1 (some (.inl (some (.int 1)), h))))))) := rfl
-- Mod.init
set_option maxRecDepth 20000 in
set_option maxHeartbeats 4000000 in
theorem mm_e148_0 (E : mm_E) (cl : mm_F) (n : Nat) (a0 : Nat) (h : mm_H) :
  mm_run E cl mm_m148 (n + 1) 0 [some (.ref a0)] [] h =
  mm_nn 190 fun k_3 => mm_al h (.inr (.inl (k_3, fun _ => 0))) k_3 fun p_1 h_2 =>
  mm_pF h_2 a0 9 1 (.ref p_1) fun h_4 =>
  mm_nn 190 fun k_7 => mm_al h_4 (.inr (.inl (k_7, fun _ => 0))) k_7 fun p_5 h_6 =>
  mm_pF h_6 a0 9 2 (.ref p_5) fun h_8 =>
  mm_nn 3800 fun k_11 => mm_al h_8 (.inr (.inl (k_11, fun _ => 0))) k_11 fun p_9 h_10 =>
  mm_pF h_10 a0 9 3 (.ref p_9) fun h_12 =>
  mm_nn 12 fun k_15 => mm_al h_12 (.inr (.inl (k_15, fun _ => 0))) k_15 fun p_13 h_14 =>
  mm_pF h_14 a0 9 5 (.ref p_13) fun h_16 =>
  mm_nn 480 fun k_19 => mm_al h_16 (.inr (.inl (k_19, fun _ => 0))) k_19 fun p_17 h_18 =>
  mm_pF h_18 a0 9 6 (.ref p_17) fun h_20 =>
  mm_nn 12 fun k_23 => mm_al h_20 (.inr (.inl (k_23, fun _ => 0))) k_23 fun p_21 h_22 =>
  mm_pF h_22 a0 9 7 (.ref p_21) fun h_24 =>
  mm_nn 1440 fun k_27 => mm_al h_24 (.inr (.inl (k_27, fun _ => 0))) k_27 fun p_25 h_26 =>
  mm_pF h_26 a0 9 8 (.ref p_25) fun h_28 =>
  mm_nn 1440 fun k_31 => mm_al h_28 (.inr (.inl (k_31, fun _ => 0))) k_31 fun p_29 h_30 =>
  mm_pF h_30 a0 9 9 (.ref p_29) fun h_32 =>
  mm_nn 120 fun k_35 => mm_al h_32 (.inr (.inl (k_35, fun _ => 0))) k_35 fun p_33 h_34 =>
  mm_pF h_34 a0 9 10 (.ref p_33) fun h_36 =>
  mm_nn 120 fun k_39 => mm_al h_36 (.inr (.inl (k_39, fun _ => 0))) k_39 fun p_37 h_38 =>
  mm_pF h_38 a0 9 11 (.ref p_37) fun h_40 =>
  mm_nn 120 fun k_43 => mm_al h_40 (.inr (.inl (k_43, fun _ => 0))) k_43 fun p_41 h_42 =>
  mm_pF h_42 a0 9 12 (.ref p_41) fun h_44 =>
  mm_nn 120 fun k_47 => mm_al h_44 (.inr (.inl (k_47, fun _ => 0))) k_47 fun p_45 h_46 =>
  mm_pF h_46 a0 9 13 (.ref p_45) fun h_48 =>
  mm_nn 2880 fun k_51 => mm_al h_48 (.inr (.inl (k_51, fun _ => 0))) k_51 fun p_49 h_50 =>
  mm_pF h_50 a0 9 14 (.ref p_49) fun h_52 =>
  mm_nn 12 fun k_55 => mm_al h_52 (.inr (.inl (k_55, fun _ => 0))) k_55 fun p_53 h_54 =>
  mm_pF h_54 a0 9 16 (.ref p_53) fun h_56 =>
  mm_nn 12 fun k_59 => mm_al h_56 (.inr (.inl (k_59, fun _ => 0))) k_59 fun p_57 h_58 =>
  mm_pF h_58 a0 9 17 (.ref p_57) fun h_60 =>
  mm_nn 40 fun k_63 => mm_al h_60 (.inr (.inl (k_63, fun _ => 0))) k_63 fun p_61 h_62 =>
  mm_pF h_62 a0 9 19 (.ref p_61) fun h_64 =>
  mm_nn 41 fun k_67 => mm_al h_64 (.inr (.inl (k_67, fun _ => 0))) k_67 fun p_65 h_66 =>
  mm_pF h_66 a0 9 20 (.ref p_65) fun h_68 =>
  mm_nn 190 fun k_71 => mm_al h_68 (.inr (.inl (k_71, fun _ => 0))) k_71 fun p_69 h_70 =>
  mm_pF h_70 a0 9 21 (.ref p_69) fun h_72 =>
  mm_nn 12 fun k_75 => mm_al h_72 (.inr (.inl (k_75, fun _ => 0))) k_75 fun p_73 h_74 =>
  mm_pF h_74 a0 9 22 (.ref p_73) fun h_76 =>
  mm_nn 480 fun k_79 => mm_al h_76 (.inr (.inl (k_79, fun _ => 0))) k_79 fun p_77 h_78 =>
  mm_pF h_78 a0 9 23 (.ref p_77) fun h_80 =>
  mm_nn 400 fun k_83 => mm_al h_80 (.inr (.inl (k_83, fun _ => 0))) k_83 fun p_81 h_82 =>
  mm_pF h_82 a0 9 25 (.ref p_81) fun h_84 =>
  mm_pF h_84 a0 9 34 (.int (-1)) fun h_85 =>
  mm_gR h_85 a0 9 1 fun p_86 =>
  mm_cV [] (cl 149 [.ref p_86] h_85) fun h_87 =>
  some (.inl none, h_87) := rfl
-- Mod.bare
set_option maxRecDepth 20000 in
set_option maxHeartbeats 4000000 in
theorem mm_e149_0 (E : mm_E) (cl : mm_F) (n : Nat) (a0 : Nat) (h : mm_H) :
  mm_run E cl mm_m149 (n + 1) 0 [some (.ref a0), none] [] h =
  mm_run E cl mm_m149 n 2 [some (.ref a0), some (.int 0)] [] h := rfl
-- Mod.bare
set_option maxRecDepth 20000 in
set_option maxHeartbeats 4000000 in
theorem mm_e149_2 (E : mm_E) (cl : mm_F) (n : Nat) (a0 : Nat) (x1 : Int32) (h : mm_H) :
  mm_run E cl mm_m149 (n + 1) 2 [some (.ref a0), some (.int x1)] [] h =
  (mm_br (190 ≤ x1) (
  mm_wI h a0 1 165 fun h_1 =>
    some (.inl none, h_1)) (
  mm_wI h a0 x1 0 fun h_2 =>
    mm_run E cl mm_m149 n 2 [some (.ref a0), some (.int (x1 + 1))] [] h_2)) := rfl
-- Mod.many
set_option maxRecDepth 20000 in
set_option maxHeartbeats 4000000 in
theorem mm_e150_0 (E : mm_E) (cl : mm_F) (n : Nat) (a0 : Nat) (h : mm_H) :
  mm_run E cl mm_m150 (n + 1) 0 [some (.ref a0)] [] h =
  mm_gR h a0 9 1 fun p_1 =>
  mm_rI E h p_1 0 fun v_2 =>
  some (.inl (some (.int v_2)), h) := rfl
-- Mod.isStage
set_option maxRecDepth 20000 in
set_option maxHeartbeats 4000000 in
theorem mm_e151_0 (E : mm_E) (cl : mm_F) (n : Nat) (a0 : Nat) (x1 : Int32) (h : mm_H) :
  mm_run E cl mm_m151 (n + 1) 0 [some (.ref a0), some (.int x1)] [] h =
  mm_cI [] (cl 150 [.ref a0] h) fun v_2 h_1 =>
  mm_cI [] (cl 147 [.int x1, .int 0, .int (v_2 - 1)] h_1) fun v_4 h_3 =>
  (mm_bz v_4 (some (.inl (some (.int v_4)), h_3))) := rfl
-- Mod.of
set_option maxRecDepth 20000 in
set_option maxHeartbeats 4000000 in
theorem mm_e152_0 (E : mm_E) (cl : mm_F) (n : Nat) (a0 : Nat) (x1 : Int32) (x2 : Int32) (h : mm_H) :
  mm_run E cl mm_m152 (n + 1) 0 [some (.ref a0), some (.int x1), some (.int x2)] [] h =
  mm_gR h a0 9 1 fun p_1 =>
  mm_rI E h p_1 ((3 + (7 * x1)) + x2) fun v_2 =>
  some (.inl (some (.int v_2)), h) := rfl
-- Mod.lay
set_option maxRecDepth 20000 in
set_option maxHeartbeats 4000000 in
theorem mm_e153_0 (E : mm_E) (cl : mm_F) (n : Nat) (a0 : Nat) (x1 : Int32) (x2 : Int32) (x3 : Int32) (h : mm_H) :
  mm_run E cl mm_m153 (n + 1) 0 [some (.ref a0), some (.int x1), some (.int x2), some (.int x3), none, none] [] h =
  mm_run E cl mm_m153 n 11 [some (.ref a0), some (.int x1), some (.int x2), some (.int x3), some (.int (3 + (7 * x1))), some (.int 0)] [] h := rfl
-- Mod.lay
set_option maxRecDepth 20000 in
set_option maxHeartbeats 4000000 in
theorem mm_e153_11 (E : mm_E) (cl : mm_F) (n : Nat) (a0 : Nat) (x1 : Int32) (x2 : Int32) (x3 : Int32) (x4 : Int32) (x5 : Int32) (h : mm_H) :
  mm_run E cl mm_m153 (n + 1) 11 [some (.ref a0), some (.int x1), some (.int x2), some (.int x3), some (.int x4), some (.int x5)] [] h =
  (mm_br (7 ≤ x5) (
  mm_wI h a0 (x4 + 0) x2 fun h_1 =>
    mm_wI h_1 a0 (x4 + 1) x3 fun h_2 =>
    mm_wI h_2 a0 (x4 + 5) (-1) fun h_3 =>
    mm_wI h_3 a0 (x4 + 6) (-1) fun h_4 =>
    some (.inl none, h_4)) (
  mm_wI h a0 (x4 + x5) 0 fun h_5 =>
    mm_run E cl mm_m153 n 11 [some (.ref a0), some (.int x1), some (.int x2), some (.int x3), some (.int x4), some (.int (x5 + 1))] [] h_5)) := rfl
-- Mod.join
set_option maxRecDepth 20000 in
set_option maxHeartbeats 4000000 in
theorem mm_e154_0 (E : mm_E) (cl : mm_F) (n : Nat) (a0 : Nat) (x1 : Int32) (x2 : Int32) (h : mm_H) :
  mm_run E cl mm_m154 (n + 1) 0 [some (.ref a0), some (.int x1), some (.int x2)] [] h =
  mm_rI E h a0 2 fun v_1 =>
  mm_wI h a0 (159 + (2 * v_1)) x1 fun h_2 =>
  mm_rI E h_2 a0 2 fun v_3 =>
  mm_wI h_2 a0 ((159 + (2 * v_3)) + 1) x2 fun h_4 =>
  mm_rI E h_4 a0 2 fun v_5 =>
  mm_wI h_4 a0 2 (v_5 + 1) fun h_6 =>
  some (.inl none, h_6) := rfl
-- Mod.from
set_option maxRecDepth 20000 in
set_option maxHeartbeats 4000000 in
theorem mm_e155_0 (E : mm_E) (cl : mm_F) (n : Nat) (a0 : Nat) (x1 : Int32) (h : mm_H) :
  mm_run E cl mm_m155 (n + 1) 0 [some (.ref a0), some (.int x1)] [] h =
  mm_gR h a0 9 1 fun p_1 =>
  mm_rI E h p_1 (159 + (2 * x1)) fun v_2 =>
  some (.inl (some (.int v_2)), h) := rfl
-- Mod.to
set_option maxRecDepth 20000 in
set_option maxHeartbeats 4000000 in
theorem mm_e156_0 (E : mm_E) (cl : mm_F) (n : Nat) (a0 : Nat) (x1 : Int32) (h : mm_H) :
  mm_run E cl mm_m156 (n + 1) 0 [some (.ref a0), some (.int x1)] [] h =
  mm_gR h a0 9 1 fun p_1 =>
  mm_rI E h p_1 ((159 + (2 * x1)) + 1) fun v_2 =>
  some (.inl (some (.int v_2)), h) := rfl
-- Mod.suppliersOf
set_option maxRecDepth 20000 in
set_option maxHeartbeats 4000000 in
theorem mm_e157_0 (E : mm_E) (cl : mm_F) (n : Nat) (a0 : Nat) (x1 : Int32) (h : mm_H) :
  mm_run E cl mm_m157 (n + 1) 0 [some (.ref a0), some (.int x1), none, none] [] h =
  mm_run E cl mm_m157 n 4 [some (.ref a0), some (.int x1), some (.int 0), some (.int 0)] [] h := rfl
-- Mod.suppliersOf
set_option maxRecDepth 20000 in
set_option maxHeartbeats 4000000 in
theorem mm_e157_4 (E : mm_E) (cl : mm_F) (n : Nat) (a0 : Nat) (x1 : Int32) (x2 : Int32) (x3 : Int32) (h : mm_H) :
  mm_run E cl mm_m157 (n + 1) 4 [some (.ref a0), some (.int x1), some (.int x2), some (.int x3)] [] h =
  mm_gR h a0 9 1 fun p_1 =>
  mm_rI E h p_1 2 fun v_2 =>
  (mm_br (v_2 ≤ x3) (
  some (.inl (some (.int x2)), h)) (
  mm_cI [] (cl 156 [.ref a0, .int x3] h) fun v_4 h_3 =>
    (mm_br (v_4 = x1) (
    mm_cI [] (cl 155 [.ref a0, .int x3] h_3) fun v_6 h_5 =>
      mm_run E cl mm_m157 n 4 [some (.ref a0), some (.int x1), some (.int (x2 ||| (1 <<< (v_6 &&& 31)))), some (.int (x3 + 1))] [] h_5) (
    mm_run E cl mm_m157 n 4 [some (.ref a0), some (.int x1), some (.int (x2 ||| 0)), some (.int (x3 + 1))] [] h_3)))) := rfl
-- Mod.customersOf
set_option maxRecDepth 20000 in
set_option maxHeartbeats 4000000 in
theorem mm_e158_0 (E : mm_E) (cl : mm_F) (n : Nat) (a0 : Nat) (x1 : Int32) (h : mm_H) :
  mm_run E cl mm_m158 (n + 1) 0 [some (.ref a0), some (.int x1), none, none] [] h =
  mm_run E cl mm_m158 n 4 [some (.ref a0), some (.int x1), some (.int 0), some (.int 0)] [] h := rfl
-- Mod.customersOf
set_option maxRecDepth 20000 in
set_option maxHeartbeats 4000000 in
theorem mm_e158_4 (E : mm_E) (cl : mm_F) (n : Nat) (a0 : Nat) (x1 : Int32) (x2 : Int32) (x3 : Int32) (h : mm_H) :
  mm_run E cl mm_m158 (n + 1) 4 [some (.ref a0), some (.int x1), some (.int x2), some (.int x3)] [] h =
  mm_gR h a0 9 1 fun p_1 =>
  mm_rI E h p_1 2 fun v_2 =>
  (mm_br (v_2 ≤ x3) (
  some (.inl (some (.int x2)), h)) (
  mm_cI [] (cl 155 [.ref a0, .int x3] h) fun v_4 h_3 =>
    (mm_br (v_4 = x1) (
    mm_cI [] (cl 156 [.ref a0, .int x3] h_3) fun v_6 h_5 =>
      mm_run E cl mm_m158 n 4 [some (.ref a0), some (.int x1), some (.int (x2 ||| (1 <<< (v_6 &&& 31)))), some (.int (x3 + 1))] [] h_5) (
    mm_run E cl mm_m158 n 4 [some (.ref a0), some (.int x1), some (.int (x2 ||| 0)), some (.int (x3 + 1))] [] h_3)))) := rfl
-- Mod.isOf
set_option maxRecDepth 20000 in
set_option maxHeartbeats 4000000 in
theorem mm_e159_0 (E : mm_E) (cl : mm_F) (n : Nat) (x0 : Int32) (x1 : Int32) (h : mm_H) :
  mm_run E cl mm_m159 (n + 1) 0 [some (.int x0), some (.int x1)] [] h =
  (mm_br (((x0 >>> (x1 &&& 31)) &&& 1) = 1) (
  (mm_bz 1 (some (.inl (some (.int 1)), h)))) (
  (mm_bz 0 (some (.inl (some (.int 0)), h))))) := rfl
-- Mod.bitsOf
set_option maxRecDepth 20000 in
set_option maxHeartbeats 4000000 in
theorem mm_e160_0 (E : mm_E) (cl : mm_F) (n : Nat) (x0 : Int32) (h : mm_H) :
  mm_run E cl mm_m160 (n + 1) 0 [some (.int x0), none, none] [] h =
  mm_run E cl mm_m160 n 4 [some (.int x0), some (.int 0), some (.int x0)] [] h := rfl
-- Mod.bitsOf
set_option maxRecDepth 20000 in
set_option maxHeartbeats 4000000 in
theorem mm_e160_4 (E : mm_E) (cl : mm_F) (n : Nat) (x0 : Int32) (x1 : Int32) (x2 : Int32) (h : mm_H) :
  mm_run E cl mm_m160 (n + 1) 4 [some (.int x0), some (.int x1), some (.int x2)] [] h =
  (mm_br (x2 = 0) (
  some (.inl (some (.int x1)), h)) (
  mm_run E cl mm_m160 n 4 [some (.int x0), some (.int (x1 + 1)), some (.int (x2 &&& (x2 - 1)))] [] h)) := rfl
-- Mod.partOf
set_option maxRecDepth 20000 in
set_option maxHeartbeats 4000000 in
theorem mm_e161_0 (E : mm_E) (cl : mm_F) (n : Nat) (a0 : Nat) (x1 : Int32) (h : mm_H) :
  mm_run E cl mm_m161 (n + 1) 0 [some (.ref a0), some (.int x1), none, none, none, none, none] [] h =
  mm_run E cl mm_m161 n 6 [some (.ref a0), some (.int x1), some (.int (1 <<< (x1 &&& 31))), some (.int 1), none, none, none] [] h := rfl
-- Mod.partOf
set_option maxRecDepth 20000 in
set_option maxHeartbeats 4000000 in
theorem mm_e161_6 (E : mm_E) (cl : mm_F) (n : Nat) (a0 : Nat) (x1 : Int32) (x2 : Int32) (x3 : Int32) (o4 : Option Value) (o5 : Option Value) (o6 : Option Value) (h : mm_H) :
  mm_run E cl mm_m161 (n + 1) 6 [some (.ref a0), some (.int x1), some (.int x2), some (.int x3), o4, o5, o6] [] h =
  (mm_br (x3 = 0) (
  some (.inl (some (.int x2)), h)) (
  mm_run E cl mm_m161 n 15 [some (.ref a0), some (.int x1), some (.int x2), some (.int 0), some (.int 0), o5, o6] [] h)) := rfl
-- Mod.partOf
set_option maxRecDepth 20000 in
set_option maxHeartbeats 4000000 in
theorem mm_e161_15 (E : mm_E) (cl : mm_F) (n : Nat) (a0 : Nat) (x1 : Int32) (x2 : Int32) (x3 : Int32) (x4 : Int32) (o5 : Option Value) (o6 : Option Value) (h : mm_H) :
  mm_run E cl mm_m161 (n + 1) 15 [some (.ref a0), some (.int x1), some (.int x2), some (.int x3), some (.int x4), o5, o6] [] h =
  mm_rI E h a0 2 fun v_1 =>
  (mm_br (v_1 ≤ x4) (
  mm_run E cl mm_m161 n 6 [some (.ref a0), some (.int x1), some (.int x2), some (.int x3), some (.int x4), o5, o6] [] h) (
  mm_rI E h a0 (159 + (2 * x4)) fun v_2 =>
    mm_rI E h a0 ((159 + (2 * x4)) + 1) fun v_3 =>
    mm_cI [] (cl 159 [.int x2, .int v_2] h) fun v_5 h_4 =>
    mm_cI [] (cl 159 [.int x2, .int v_3] h_4) fun v_7 h_6 =>
    (mm_br (v_5 = v_7) (
    mm_run E cl mm_m161 n 15 [some (.ref a0), some (.int x1), some (.int x2), some (.int x3), some (.int (x4 + 1)), some (.int v_2), some (.int v_3)] [] h_6) (
    mm_run E cl mm_m161 n 15 [some (.ref a0), some (.int x1), some (.int (x2 ||| ((1 <<< (v_2 &&& 31)) ||| (1 <<< (v_3 &&& 31))))), some (.int 1), some (.int (x4 + 1)), some (.int v_2), some (.int v_3)] [] h_6)))) := rfl
-- Mod.flowOf
set_option maxRecDepth 20000 in
set_option maxHeartbeats 4000000 in
theorem mm_e162_0 (E : mm_E) (cl : mm_F) (n : Nat) (a0 : Nat) (x1 : Int32) (x2 : Int32) (h : mm_H) :
  mm_run E cl mm_m162 (n + 1) 0 [some (.ref a0), some (.int x1), some (.int x2), none, none] [] h =
  mm_cI [] (cl 152 [.ref a0, .int x1, .int x2] h) fun v_2 h_1 =>
  mm_run E cl mm_m162 n 10 [some (.ref a0), some (.int x1), some (.int x2), some (.int v_2), some (.int 0)] [] h_1 := rfl
-- Mod.flowOf
set_option maxRecDepth 20000 in
set_option maxHeartbeats 4000000 in
theorem mm_e162_10 (E : mm_E) (cl : mm_F) (n : Nat) (a0 : Nat) (x1 : Int32) (x2 : Int32) (x3 : Int32) (x4 : Int32) (h : mm_H) :
  mm_run E cl mm_m162 (n + 1) 10 [some (.ref a0), some (.int x1), some (.int x2), some (.int x3), some (.int x4)] [] h =
  mm_cI [] (cl 150 [.ref a0] h) fun v_2 h_1 =>
  (mm_br (v_2 ≤ x4) (
  some (.inl (some (.int x3)), h_1)) (
  mm_cI [] (cl 158 [.ref a0, .int x1] h_1) fun v_4 h_3 =>
    mm_cI [] (cl 159 [.int v_4, .int x4] h_3) fun v_6 h_5 =>
    (mm_br (v_6 = 0) (
    mm_run E cl mm_m162 n 10 [some (.ref a0), some (.int x1), some (.int x2), some (.int (x3 + 0)), some (.int (x4 + 1))] [] h_5) (
    mm_cI [] (cl 162 [.ref a0, .int x4, .int x2] h_5) fun v_8 h_7 =>
      mm_run E cl mm_m162 n 10 [some (.ref a0), some (.int x1), some (.int x2), some (.int (x3 + v_8)), some (.int (x4 + 1))] [] h_7)))) := rfl
-- Mod.longestOf
set_option maxRecDepth 20000 in
set_option maxHeartbeats 4000000 in
theorem mm_e163_0 (E : mm_E) (cl : mm_F) (n : Nat) (a0 : Nat) (x1 : Int32) (h : mm_H) :
  mm_run E cl mm_m163 (n + 1) 0 [some (.ref a0), some (.int x1), none, none] [] h =
  mm_cI [] (cl 152 [.ref a0, .int x1, .int 2] h) fun v_2 h_1 =>
  mm_run E cl mm_m163 n 9 [some (.ref a0), some (.int x1), some (.int v_2), some (.int 0)] [] h_1 := rfl
-- Mod.longestOf
set_option maxRecDepth 20000 in
set_option maxHeartbeats 4000000 in
theorem mm_e163_9 (E : mm_E) (cl : mm_F) (n : Nat) (a0 : Nat) (x1 : Int32) (x2 : Int32) (x3 : Int32) (h : mm_H) :
  mm_run E cl mm_m163 (n + 1) 9 [some (.ref a0), some (.int x1), some (.int x2), some (.int x3)] [] h =
  mm_cI [] (cl 150 [.ref a0] h) fun v_2 h_1 =>
  (mm_br (v_2 ≤ x3) (
  mm_cI [] (cl 152 [.ref a0, .int x1, .int 0] h_1) fun v_4 h_3 =>
    some (.inl (some (.int (x2 + v_4))), h_3)) (
  mm_cI [] (cl 157 [.ref a0, .int x1] h_1) fun v_6 h_5 =>
    mm_cI [] (cl 159 [.int v_6, .int x3] h_5) fun v_8 h_7 =>
    (mm_br (v_8 = 0) (
    mm_run E cl mm_m163 n 9 [some (.ref a0), some (.int x1), some (.int x2), some (.int (x3 + 1))] [] h_7) (
    mm_cI [] (cl 163 [.ref a0, .int x3] h_7) fun v_10 h_9 =>
      mm_run E cl mm_m163 n 9 [some (.ref a0), some (.int x1), some (.int (mm_mx x2 v_10)), some (.int (x3 + 1))] [] h_9)))) := rfl
-- Mod.rootOf
set_option maxRecDepth 20000 in
set_option maxHeartbeats 4000000 in
theorem mm_e164_0 (E : mm_E) (cl : mm_F) (n : Nat) (y0 : Int64) (h : mm_H) :
  mm_run E cl mm_m164 (n + 1) 0 [some (.long y0), none, none, none, none, none, none, none] [] h =
  mm_run E cl mm_m164 n 7 [some (.long y0), none, some (.long 0), none, some (.long 100000), none, none, none] [] h := rfl
-- Mod.rootOf
set_option maxRecDepth 20000 in
set_option maxHeartbeats 4000000 in
theorem mm_e164_7 (E : mm_E) (cl : mm_F) (n : Nat) (y0 : Int64) (y2 : Int64) (y4 : Int64) (o6 : Option Value) (o7 : Option Value) (h : mm_H) :
  mm_run E cl mm_m164 (n + 1) 7 [some (.long y0), none, some (.long y2), none, some (.long y4), none, o6, o7] [] h =
  (mm_br (0 ≤ (lg_cmp y2 y4)) (
  some (.inl (some (.int (Int64.toInt32 y2))), h)) (
  (mm_nzj 2 (
    (mm_br ((lg_cmp ((10000 * ((y2 + y4) / 2)) * ((y2 + y4) / 2)) y0) < 0) (
    mm_run E cl mm_m164 n 7 [some (.long y0), none, some (.long (((y2 + y4) / 2) + 1)), none, some (.long y4), none, some (.long ((y2 + y4) / 2)), none] [] h) (
    mm_run E cl mm_m164 n 7 [some (.long y0), none, some (.long y2), none, some (.long ((y2 + y4) / 2)), none, some (.long ((y2 + y4) / 2)), none] [] h)))))) := rfl
-- Mod.root
set_option maxRecDepth 20000 in
set_option maxHeartbeats 4000000 in
theorem mm_e165_0 (E : mm_E) (cl : mm_F) (n : Nat) (a0 : Nat) (x1 : Int32) (x2 : Int32) (h : mm_H) :
  mm_run E cl mm_m165 (n + 1) 0 [some (.ref a0), some (.int x1), some (.int x2)] [] h =
  mm_gR h a0 9 1 fun p_1 =>
  mm_rI E h p_1 1 fun v_2 =>
  mm_gR h a0 9 1 fun p_3 =>
  mm_rI E h p_3 1 fun v_4 =>
  mm_cI [] (cl 162 [.ref a0, .int x1, .int 4] h) fun v_6 h_5 =>
  mm_cI [] (cl 164 [.long ((((Int32.toInt64 v_2) * (Int32.toInt64 v_4)) * (Int32.toInt64 v_6)) * (Int32.toInt64 x2))] h_5) fun v_8 h_7 =>
  some (.inl (some (.int v_8)), h_7) := rfl
-- Mod.boundOf
set_option maxRecDepth 20000 in
set_option maxHeartbeats 4000000 in
theorem mm_e166_0 (E : mm_E) (cl : mm_F) (n : Nat) (a0 : Nat) (x1 : Int32) (x2 : Int32) (h : mm_H) :
  mm_run E cl mm_m166 (n + 1) 0 [some (.ref a0), some (.int x1), some (.int x2)] [] h =
  mm_cI [] (cl 162 [.ref a0, .int x1, .int 3] h) fun v_2 h_1 =>
  mm_cI [] (cl 165 [.ref a0, .int x1, .int x2] h_1) fun v_4 h_3 =>
  some (.inl (some (.int ((x2 * v_2) + v_4))), h_3) := rfl
-- Mod.bound
set_option maxRecDepth 20000 in
set_option maxHeartbeats 4000000 in
theorem mm_e167_0 (E : mm_E) (cl : mm_F) (n : Nat) (a0 : Nat) (x1 : Int32) (x2 : Int32) (x3 : Int32) (h : mm_H) :
  mm_run E cl mm_m167 (n + 1) 0 [some (.ref a0), some (.int x1), some (.int x2), some (.int x3)] [] h =
  mm_cI [] (cl 151 [.ref a0, .int x1] h) fun v_2 h_1 =>
  (mm_br (v_2 = 0) (
  mm_run E cl mm_m167 n 38 [some (.ref a0), some (.int x1), some (.int x2), some (.int x3)] [.int 1, .ref a0] h_1) (
  mm_cI [] (cl 147 [.int x2, .int 0, .int 1] h_1) fun v_4 h_3 =>
    (mm_br (v_4 = 0) (
    mm_run E cl mm_m167 n 38 [some (.ref a0), some (.int x1), some (.int x2), some (.int x3)] [.int 1, .ref a0] h_3) (
    mm_cI [] (cl 147 [.int x3, .int 0, .int 999] h_3) fun v_6 h_5 =>
      (mm_br (v_6 = 0) (
      mm_run E cl mm_m167 n 38 [some (.ref a0), some (.int x1), some (.int x2), some (.int x3)] [.int 2, .ref a0] h_5) (
      mm_run E cl mm_m167 n 38 [some (.ref a0), some (.int x1), some (.int x2), some (.int x3)] [.int 0, .ref a0] h_5)))))) := rfl
-- Mod.bound
set_option maxRecDepth 20000 in
set_option maxHeartbeats 4000000 in
theorem mm_e167_38 (E : mm_E) (cl : mm_F) (n : Nat) (a0 : Nat) (x1 : Int32) (x2 : Int32) (x3 : Int32) (b0 : Nat) (s1 : Int32) (h : mm_H) :
  mm_run E cl mm_m167 (n + 1) 38 [some (.ref a0), some (.int x1), some (.int x2), some (.int x3)] [.int s1, .ref b0] h =
  mm_pF h b0 9 0 (.int s1) fun h_1 =>
  mm_gI h_1 a0 9 0 fun v_2 =>
  (mm_br (v_2 ≤ 0) (
  (mm_br (x2 = 0) (
    mm_cI [] (cl 165 [.ref a0, .int x1, .int x3] h_1) fun v_6 h_5 =>
      some (.inl (some (.int v_6)), h_5)) (
    mm_cI [] (cl 166 [.ref a0, .int x1, .int x3] h_1) fun v_4 h_3 =>
      some (.inl (some (.int v_4)), h_3)))) (
  some (.inl (some (.int 0)), h_1))) := rfl
-- Mod.count
set_option maxRecDepth 20000 in
set_option maxHeartbeats 4000000 in
theorem mm_e168_0 (E : mm_E) (cl : mm_F) (n : Nat) (a0 : Nat) (x1 : Int32) (h : mm_H) :
  mm_run E cl mm_m168 (n + 1) 0 [some (.ref a0), some (.int x1), none, none] [] h =
  mm_pF h a0 9 0 (.int 0) fun h_1 =>
  (mm_br (x1 = 0) (
  mm_cI [] (cl 150 [.ref a0] h_1) fun v_15 h_14 =>
    some (.inl (some (.int v_15)), h_14)) (
  (mm_br (x1 = 1) (
  mm_gR h_1 a0 9 1 fun p_12 =>
    mm_rI E h_1 p_12 2 fun v_13 =>
    some (.inl (some (.int v_13)), h_1)) (
  (mm_br (x1 = 2) (
  mm_gR h_1 a0 9 1 fun p_10 =>
    mm_rI E h_1 p_10 1 fun v_11 =>
    some (.inl (some (.int v_11)), h_1)) (
  (mm_br (x1 = 3) (
  mm_cI [] (cl 150 [.ref a0] h_1) fun v_7 h_6 =>
    mm_gR h_6 a0 9 1 fun p_8 =>
    mm_rI E h_6 p_8 2 fun v_9 =>
    some (.inl (some (.int (v_7 - v_9))), h_6)) (
  (mm_br (x1 = 4) (
  mm_run E cl mm_m168 n 83 [some (.ref a0), some (.int x1), some (.int 0), some (.int 0)] [] h_1) (
  (mm_br (x1 = 5) (
  mm_gI h_1 a0 9 4 fun v_5 =>
    some (.inl (some (.int v_5)), h_1)) (
  (mm_br (x1 = 6) (
  mm_gI h_1 a0 9 26 fun v_4 =>
    some (.inl (some (.int v_4)), h_1)) (
  mm_cI [] (cl 146 [.ref a0, .int 1] h_1) fun v_3 h_2 =>
  some (.inl (some (.int v_3)), h_2))))))))))))))) := rfl
-- Mod.count
set_option maxRecDepth 20000 in
set_option maxHeartbeats 4000000 in
theorem mm_e168_83 (E : mm_E) (cl : mm_F) (n : Nat) (a0 : Nat) (x1 : Int32) (x2 : Int32) (x3 : Int32) (h : mm_H) :
  mm_run E cl mm_m168 (n + 1) 83 [some (.ref a0), some (.int x1), some (.int x2), some (.int x3)] [] h =
  mm_cI [] (cl 150 [.ref a0] h) fun v_2 h_1 =>
  (mm_br (v_2 ≤ x3) (
  some (.inl (some (.int x2)), h_1)) (
  mm_cI [] (cl 152 [.ref a0, .int x3, .int 6] h_1) fun v_4 h_3 =>
    (mm_br (v_4 = (-1)) (
    mm_run E cl mm_m168 n 83 [some (.ref a0), some (.int x1), some (.int (x2 + 0)), some (.int (x3 + 1))] [] h_3) (
    mm_run E cl mm_m168 n 83 [some (.ref a0), some (.int x1), some (.int (x2 + 1)), some (.int (x3 + 1))] [] h_3)))) := rfl
-- Mod.letter
set_option maxRecDepth 20000 in
set_option maxHeartbeats 4000000 in
theorem mm_e169_0 (E : mm_E) (cl : mm_F) (n : Nat) (a0 : Nat) (x1 : Int32) (x2 : Int32) (h : mm_H) :
  mm_run E cl mm_m169 (n + 1) 0 [some (.ref a0), some (.int x1), some (.int x2)] [] h =
  mm_pF h a0 9 0 (.int 0) fun h_1 =>
  mm_cI [] (cl 151 [.ref a0, .int x1] h_1) fun v_3 h_2 =>
  (mm_br (v_3 = 0) (
  mm_cI [] (cl 146 [.ref a0, .int 1] h_2) fun v_5 h_4 =>
    some (.inl (some (.int v_5)), h_4)) (
  mm_cI [] (cl 147 [.int x2, .int 0, .int 5] h_2) fun v_7 h_6 =>
    (mm_br (v_7 = 0) (
    mm_cI [] (cl 146 [.ref a0, .int 1] h_6) fun v_9 h_8 =>
      some (.inl (some (.int v_9)), h_8)) (
    mm_gR h_6 a0 9 1 fun p_10 =>
      mm_rI E h_6 p_10 ((87 + (6 * x1)) + x2) fun v_11 =>
      some (.inl (some (.int v_11)), h_6))))) := rfl
-- Mod.stage
set_option maxRecDepth 20000 in
set_option maxHeartbeats 4000000 in
theorem mm_e170_0 (E : mm_E) (cl : mm_F) (n : Nat) (a0 : Nat) (x1 : Int32) (x2 : Int32) (h : mm_H) :
  mm_run E cl mm_m170 (n + 1) 0 [some (.ref a0), some (.int x1), some (.int x2)] [] h =
  mm_pF h a0 9 0 (.int 0) fun h_1 =>
  mm_cI [] (cl 151 [.ref a0, .int x1] h_1) fun v_3 h_2 =>
  (mm_br (v_3 = 0) (
  mm_cI [] (cl 146 [.ref a0, .int 1] h_2) fun v_5 h_4 =>
    some (.inl (some (.int v_5)), h_4)) (
  mm_cI [] (cl 147 [.int x2, .int 0, .int 11] h_2) fun v_7 h_6 =>
    (mm_br (v_7 = 0) (
    mm_cI [] (cl 146 [.ref a0, .int 1] h_6) fun v_21 h_20 =>
      some (.inl (some (.int v_21)), h_20)) (
    (mm_br (x2 = 7) (
      mm_cI [] (cl 162 [.ref a0, .int x1, .int 3] h_6) fun v_19 h_18 =>
        some (.inl (some (.int v_19)), h_18)) (
      (mm_br (x2 = 8) (
      mm_cI [] (cl 162 [.ref a0, .int x1, .int 4] h_6) fun v_17 h_16 =>
        some (.inl (some (.int v_17)), h_16)) (
      (mm_br (x2 = 9) (
      mm_cI [] (cl 163 [.ref a0, .int x1] h_6) fun v_15 h_14 =>
        some (.inl (some (.int v_15)), h_14)) (
      (mm_br (x2 = 10) (
      mm_cI [] (cl 157 [.ref a0, .int x1] h_6) fun v_13 h_12 =>
        some (.inl (some (.int v_13)), h_12)) (
      (mm_br (x2 = 11) (
      mm_cI [] (cl 158 [.ref a0, .int x1] h_6) fun v_11 h_10 =>
        some (.inl (some (.int v_11)), h_10)) (
      mm_cI [] (cl 152 [.ref a0, .int x1, .int x2] h_6) fun v_9 h_8 =>
      some (.inl (some (.int v_9)), h_8))))))))))))))) := rfl
-- Mod.keep
set_option maxRecDepth 20000 in
set_option maxHeartbeats 4000000 in
theorem mm_e171_0 (E : mm_E) (cl : mm_F) (n : Nat) (a0 : Nat) (h : mm_H) :
  mm_run E cl mm_m171 (n + 1) 0 [some (.ref a0), none] [] h =
  mm_gI h a0 9 4 fun v_1 =>
  (mm_br (v_1 = 20) (
  mm_run E cl mm_m171 n 13 [some (.ref a0), some (.int 190)] [] h) (
  mm_run E cl mm_m171 n 54 [some (.ref a0), some (.int 0)] [] h)) := rfl
