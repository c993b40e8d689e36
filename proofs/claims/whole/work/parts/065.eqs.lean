/-! EQUATIONS of the runs, part 3 (by program: wip/whole/genpure.py) -/
-- PS.least
def mm_r118_0 (E : mm_E) (cl : mm_F) (n : Nat) (a0 : Nat) (h : mm_H) : mm_R := mm_run E cl mm_m118 n 0 [some (.ref a0)] [] h
set_option maxRecDepth 20000 in
set_option maxHeartbeats 4000000 in
theorem mm_e118_0 (E : mm_E) (cl : mm_F) (n : Nat) (a0 : Nat) (h : mm_H) :
  mm_r118_0 E cl (n + 1) a0 h =
  mm_gR h a0 8 5 fun p_1 =>
  mm_gR h a0 8 1 fun p_2 =>
  mm_cI [] (cl 5 [.ref p_1, .ref p_2] h) fun v_4 h_3 =>
  some (.inl (some (.int v_4)), h_3) := rfl
-- PS.worth
def mm_r119_0 (E : mm_E) (cl : mm_F) (n : Nat) (a0 : Nat) (x1 : Int32) (x2 : Int32) (h : mm_H) : mm_R := mm_run E cl mm_m119 n 0 [some (.ref a0), some (.int x1), some (.int x2), none, none, none, none, none] [] h
def mm_r119_29 (E : mm_E) (cl : mm_F) (n : Nat) (a0 : Nat) (x1 : Int32) (x2 : Int32) (o3 : Option Value) (o4 : Option Value) (o5 : Option Value) (o6 : Option Value) (o7 : Option Value) (s0 : Int32) (h : mm_H) : mm_R := mm_run E cl mm_m119 n 29 [some (.ref a0), some (.int x1), some (.int x2), o3, o4, o5, o6, o7] [.int s0] h
def mm_r119_52 (E : mm_E) (cl : mm_F) (n : Nat) (a0 : Nat) (x1 : Int32) (x2 : Int32) (x3 : Int32) (x4 : Int32) (o5 : Option Value) (o6 : Option Value) (o7 : Option Value) (s0 : Int32) (s1 : Int32) (h : mm_H) : mm_R := mm_run E cl mm_m119 n 52 [some (.ref a0), some (.int x1), some (.int x2), some (.int x3), some (.int x4), o5, o6, o7] [.int s1, .int s0] h
def mm_r119_81 (E : mm_E) (cl : mm_F) (n : Nat) (a0 : Nat) (x1 : Int32) (x2 : Int32) (x3 : Int32) (x4 : Int32) (o5 : Option Value) (o6 : Option Value) (o7 : Option Value) (s0 : Int32) (h : mm_H) : mm_R := mm_run E cl mm_m119 n 81 [some (.ref a0), some (.int x1), some (.int x2), some (.int x3), some (.int x4), o5, o6, o7] [.int s0] h
set_option maxRecDepth 20000 in
set_option maxHeartbeats 4000000 in
theorem mm_e119_0 (E : mm_E) (cl : mm_F) (n : Nat) (a0 : Nat) (x1 : Int32) (x2 : Int32) (h : mm_H) :
  mm_r119_0 E cl (n + 1) a0 x1 x2 h =
  mm_cV [] (cl 133 [.ref a0, .int x1] h) fun h_1 =>
  mm_cV [] (cl 134 [.int x2, .int (mm_i 3)] h_1) fun h_2 =>
  (mm_br (x2 = (mm_i 0)) (
  mm_r119_29 E cl n a0 x1 x2 none none none none none (mm_i 0) h_2) (
  (mm_br (x2 = (mm_i 1)) (
    mm_r119_29 E cl n a0 x1 x2 none none none none none (mm_i 5) h_2) (
    mm_r119_29 E cl n a0 x1 x2 none none none none none (mm_i 6) h_2)))) := rfl
set_option maxRecDepth 20000 in
set_option maxHeartbeats 4000000 in
theorem mm_e119_29 (E : mm_E) (cl : mm_F) (n : Nat) (a0 : Nat) (x1 : Int32) (x2 : Int32) (o3 : Option Value) (o4 : Option Value) (o5 : Option Value) (o6 : Option Value) (o7 : Option Value) (s0 : Int32) (h : mm_H) :
  mm_r119_29 E cl (n + 1) a0 x1 x2 o3 o4 o5 o6 o7 s0 h =
  mm_gR h a0 8 1 fun p_1 =>
  mm_cI [] (cl 30 [.ref p_1, .int x1, .int s0] h) fun v_3 h_2 =>
  (mm_br (x2 = (mm_i 0)) (
  mm_r119_52 E cl n a0 x1 x2 s0 v_3 o5 o6 o7 v_3 (mm_i 0) h_2) (
  mm_r119_52 E cl n a0 x1 x2 s0 v_3 o5 o6 o7 v_3 (mm_i (-1)) h_2)) := rfl
set_option maxRecDepth 20000 in
set_option maxHeartbeats 4000000 in
theorem mm_e119_52 (E : mm_E) (cl : mm_F) (n : Nat) (a0 : Nat) (x1 : Int32) (x2 : Int32) (x3 : Int32) (x4 : Int32) (o5 : Option Value) (o6 : Option Value) (o7 : Option Value) (s0 : Int32) (s1 : Int32) (h : mm_H) :
  mm_r119_52 E cl (n + 1) a0 x1 x2 x3 x4 o5 o6 o7 s0 s1 h =
  (mm_br (s0 = s1) (
  some (.inl (some (.int (mm_i 0))), h)) (
  (mm_br (x2 = (mm_i 0)) (
    mm_r119_81 E cl n a0 x1 x2 x3 x4 o5 o6 o7 (x4 - (mm_i 1)) h) (
    (mm_br (x2 = (mm_i 1)) (
      mm_r119_81 E cl n a0 x1 x2 x3 x4 o5 o6 o7 (x4 + (mm_i 1)) h) (
      mm_r119_81 E cl n a0 x1 x2 x3 x4 o5 o6 o7 (mm_i (-1)) h)))))) := rfl
set_option maxRecDepth 20000 in
set_option maxHeartbeats 4000000 in
theorem mm_e119_81 (E : mm_E) (cl : mm_F) (n : Nat) (a0 : Nat) (x1 : Int32) (x2 : Int32) (x3 : Int32) (x4 : Int32) (o5 : Option Value) (o6 : Option Value) (o7 : Option Value) (s0 : Int32) (h : mm_H) :
  mm_r119_81 E cl (n + 1) a0 x1 x2 x3 x4 o5 o6 o7 s0 h =
  mm_gR h a0 8 5 fun p_1 =>
  mm_gR h a0 8 1 fun p_2 =>
  mm_cI [] (cl 5 [.ref p_1, .ref p_2] h) fun v_4 h_3 =>
  mm_cI [] (cl 143 [.ref a0, .int x1, .int x3, .int s0] h_3) fun v_6 h_5 =>
  (mm_br (v_4 = (mm_i (-1))) (
  some (.inl (some (.int (mm_i (-1000000)))), h_5)) (
  (mm_br (v_6 = (mm_i (-1))) (
    some (.inl (some (.int (mm_i (-1000000)))), h_5)) (
    some (.inl (some (.int (v_4 - v_6))), h_5))))) := rfl
-- PS.even
def mm_r120_0 (E : mm_E) (cl : mm_F) (n : Nat) (a0 : Nat) (x1 : Int32) (h : mm_H) : mm_R := mm_run E cl mm_m120 n 0 [some (.ref a0), some (.int x1)] [] h
set_option maxRecDepth 20000 in
set_option maxHeartbeats 4000000 in
theorem mm_e120_0 (E : mm_E) (cl : mm_F) (n : Nat) (a0 : Nat) (x1 : Int32) (h : mm_H) :
  mm_r120_0 E cl (n + 1) a0 x1 h =
  (mm_br (x1 < (mm_i 0)) (
  some (.inr 1, (h.1, (none, (h.2.2.1 + 1, h.2.2.2 + 6))))) (
  (mm_br (x1 ≤ (mm_i 20)) (
    mm_cI [] (cl 144 [.ref a0, .int x1] h) fun v_2 h_1 =>
      some (.inl (some (.int v_2)), h_1)) (
    some (.inr 1, (h.1, (none, (h.2.2.1 + 1, h.2.2.2 + 6)))))))) := rfl
-- PS.budget
def mm_r121_0 (E : mm_E) (cl : mm_F) (n : Nat) (a0 : Nat) (x1 : Int32) (h : mm_H) : mm_R := mm_run E cl mm_m121 n 0 [some (.ref a0), some (.int x1), none, none] [] h
def mm_r121_2 (E : mm_E) (cl : mm_F) (n : Nat) (a0 : Nat) (x1 : Int32) (x2 : Int32) (o3 : Option Value) (h : mm_H) : mm_R := mm_run E cl mm_m121 n 2 [some (.ref a0), some (.int x1), some (.int x2), o3] [] h
set_option maxRecDepth 20000 in
set_option maxHeartbeats 4000000 in
theorem mm_e121_0 (E : mm_E) (cl : mm_F) (n : Nat) (a0 : Nat) (x1 : Int32) (h : mm_H) :
  mm_r121_0 E cl (n + 1) a0 x1 h =
  mm_r121_2 E cl n a0 x1 (mm_i 0) none h := rfl
set_option maxRecDepth 20000 in
set_option maxHeartbeats 4000000 in
theorem mm_e121_2 (E : mm_E) (cl : mm_F) (n : Nat) (a0 : Nat) (x1 : Int32) (x2 : Int32) (o3 : Option Value) (h : mm_H) :
  mm_r121_2 E cl (n + 1) a0 x1 x2 o3 h =
  (mm_br ((mm_i 20) < x2) (
  some (.inl (some (.int (mm_i (-1)))), h)) (
  mm_cI [] (cl 144 [.ref a0, .int x2] h) fun v_2 h_1 =>
    (mm_br (v_2 = (mm_i (-1))) (
    mm_r121_2 E cl n a0 x1 (x2 + (mm_i 1)) (some (.int v_2)) h_1) (
    (mm_br (x1 < v_2) (
      mm_r121_2 E cl n a0 x1 (x2 + (mm_i 1)) (some (.int v_2)) h_1) (
      some (.inl (some (.int x2)), h_1))))))) := rfl
-- PS.pinned
def mm_r122_0 (E : mm_E) (cl : mm_F) (n : Nat) (a0 : Nat) (x1 : Int32) (x2 : Int32) (h : mm_H) : mm_R := mm_run E cl mm_m122 n 0 [some (.ref a0), some (.int x1), some (.int x2)] [] h
set_option maxRecDepth 20000 in
set_option maxHeartbeats 4000000 in
theorem mm_e122_0 (E : mm_E) (cl : mm_F) (n : Nat) (a0 : Nat) (x1 : Int32) (x2 : Int32) (h : mm_H) :
  mm_r122_0 E cl (n + 1) a0 x1 x2 h =
  mm_cV [] (cl 133 [.ref a0, .int x1] h) fun h_1 =>
  mm_cV [] (cl 136 [.int x2] h_1) fun h_2 =>
  mm_cI [] (cl 143 [.ref a0, .int x1, .int (mm_i 6), .int x2] h_2) fun v_4 h_3 =>
  some (.inl (some (.int v_4)), h_3) := rfl
-- PS.demand
def mm_r123_0 (E : mm_E) (cl : mm_F) (n : Nat) (a0 : Nat) (x1 : Int32) (x2 : Int32) (x3 : Int32) (h : mm_H) : mm_R := mm_run E cl mm_m123 n 0 [some (.ref a0), some (.int x1), some (.int x2), some (.int x3), none, none] [] h
set_option maxRecDepth 20000 in
set_option maxHeartbeats 4000000 in
theorem mm_e123_0 (E : mm_E) (cl : mm_F) (n : Nat) (a0 : Nat) (x1 : Int32) (x2 : Int32) (x3 : Int32) (h : mm_H) :
  mm_r123_0 E cl (n + 1) a0 x1 x2 x3 h =
  mm_cV [] (cl 133 [.ref a0, .int x1] h) fun h_1 =>
  mm_cV [] (cl 135 [.int x2] h_1) fun h_2 =>
  (mm_br (x3 < (mm_i 0)) (
  some (.inr 1, (h_2.1, (none, (h_2.2.2.1 + 1, h_2.2.2.2 + 6))))) (
  (mm_br (x3 ≤ (mm_i 999)) (
    mm_gR h_2 a0 8 1 fun p_3 =>
      mm_gR h_2 p_3 3 5 fun p_4 =>
      mm_rI E h_2 p_4 ((x1 * (mm_i 40)) + x2) fun v_5 =>
      mm_gR h_2 a0 8 1 fun p_6 =>
      mm_gR h_2 p_6 3 5 fun p_7 =>
      mm_wI h_2 p_7 ((x1 * (mm_i 40)) + x2) x3 fun h_8 =>
      some (.inl (some (.int v_5)), h_8)) (
    some (.inr 1, (h_2.1, (none, (h_2.2.2.1 + 1, h_2.2.2.2 + 6)))))))) := rfl
-- PS.drawn
def mm_r124_0 (E : mm_E) (cl : mm_F) (n : Nat) (a0 : Nat) (x1 : Int32) (x2 : Int32) (h : mm_H) : mm_R := mm_run E cl mm_m124 n 0 [some (.ref a0), some (.int x1), some (.int x2), none, none, none, none, none] [] h
def mm_r124_28 (E : mm_E) (cl : mm_F) (n : Nat) (a0 : Nat) (x1 : Int32) (x2 : Int32) (x3 : Int32) (x4 : Int32) (x5 : Int32) (x6 : Int32) (o7 : Option Value) (h : mm_H) : mm_R := mm_run E cl mm_m124 n 28 [some (.ref a0), some (.int x1), some (.int x2), some (.int x3), some (.int x4), some (.int x5), some (.int x6), o7] [] h
set_option maxRecDepth 20000 in
set_option maxHeartbeats 4000000 in
theorem mm_e124_0 (E : mm_E) (cl : mm_F) (n : Nat) (a0 : Nat) (x1 : Int32) (x2 : Int32) (h : mm_H) :
  mm_r124_0 E cl (n + 1) a0 x1 x2 h =
  mm_cV [] (cl 133 [.ref a0, .int x1] h) fun h_1 =>
  mm_gR h_1 a0 8 1 fun p_2 =>
  mm_cI [] (cl 30 [.ref p_2, .int x1, .int (mm_i 3)] h_1) fun v_4 h_3 =>
  mm_r124_28 E cl n a0 x1 x2 (((mm_i 2) * v_4) + (mm_i 1)) x2 (mm_i 0) (mm_i 0) none h_3 := rfl
set_option maxRecDepth 20000 in
set_option maxHeartbeats 4000000 in
theorem mm_e124_28 (E : mm_E) (cl : mm_F) (n : Nat) (a0 : Nat) (x1 : Int32) (x2 : Int32) (x3 : Int32) (x4 : Int32) (x5 : Int32) (x6 : Int32) (o7 : Option Value) (h : mm_H) :
  mm_r124_28 E cl (n + 1) a0 x1 x2 x3 x4 x5 x6 o7 h =
  (mm_br ((mm_i 40) ≤ x6) (
  some (.inl (some (.int x5)), h)) (
  (mm_br (x3 ≤ (mm_i 0)) (
    mm_gR h a0 8 1 fun p_1 =>
      mm_gR h p_1 3 5 fun p_2 =>
      mm_wI h p_2 ((x1 * (mm_i 40)) + x6) (mm_i 0) fun h_3 =>
      mm_r124_28 E cl n a0 x1 x2 x3 ((x4 * (mm_i 1103515245)) + (mm_i 12345)) (x5 + (mm_i 0)) (x6 + (mm_i 1)) (some (.int (mm_i 0))) h_3) (
    (mm_nz x3 (
      mm_gR h a0 8 1 fun p_4 =>
      mm_gR h p_4 3 5 fun p_5 =>
      mm_wI h p_5 ((x1 * (mm_i 40)) + x6) (((((((x4 * (mm_i 1103515245)) + (mm_i 12345))).toUInt32 >>> (((mm_i 16) : Int32).toUInt32 &&& Int32.toUInt32 31)).toInt32) &&& (mm_i 32767)) - ((((((x4 * (mm_i 1103515245)) + (mm_i 12345))).toUInt32 >>> (((mm_i 16) : Int32).toUInt32 &&& Int32.toUInt32 31)).toInt32) &&& (mm_i 32767)) / x3 * x3) fun h_6 =>
      mm_r124_28 E cl n a0 x1 x2 x3 ((x4 * (mm_i 1103515245)) + (mm_i 12345)) (x5 + (((((((x4 * (mm_i 1103515245)) + (mm_i 12345))).toUInt32 >>> (((mm_i 16) : Int32).toUInt32 &&& Int32.toUInt32 31)).toInt32) &&& (mm_i 32767)) - ((((((x4 * (mm_i 1103515245)) + (mm_i 12345))).toUInt32 >>> (((mm_i 16) : Int32).toUInt32 &&& Int32.toUInt32 31)).toInt32) &&& (mm_i 32767)) / x3 * x3)) (x6 + (mm_i 1)) (some (.int (((((((x4 * (mm_i 1103515245)) + (mm_i 12345))).toUInt32 >>> (((mm_i 16) : Int32).toUInt32 &&& Int32.toUInt32 31)).toInt32) &&& (mm_i 32767)) - ((((((x4 * (mm_i 1103515245)) + (mm_i 12345))).toUInt32 >>> (((mm_i 16) : Int32).toUInt32 &&& Int32.toUInt32 31)).toInt32) &&& (mm_i 32767)) / x3 * x3))) h_6)))))) := rfl
-- PS.day
def mm_r125_0 (E : mm_E) (cl : mm_F) (n : Nat) (a0 : Nat) (x1 : Int32) (x2 : Int32) (x3 : Int32) (h : mm_H) : mm_R := mm_run E cl mm_m125 n 0 [some (.ref a0), some (.int x1), some (.int x2), some (.int x3)] [] h
set_option maxRecDepth 20000 in
set_option maxHeartbeats 4000000 in
theorem mm_e125_0 (E : mm_E) (cl : mm_F) (n : Nat) (a0 : Nat) (x1 : Int32) (x2 : Int32) (x3 : Int32) (h : mm_H) :
  mm_r125_0 E cl (n + 1) a0 x1 x2 x3 h =
  mm_cV [] (cl 133 [.ref a0, .int x1] h) fun h_1 =>
  mm_cV [] (cl 135 [.int x2] h_1) fun h_2 =>
  mm_cV [] (cl 134 [.int x3, .int (mm_i 4)] h_2) fun h_3 =>
  mm_gR h_3 a0 8 6 fun p_4 =>
  mm_gR h_3 a0 8 1 fun p_5 =>
  mm_cV [] (cl 20 [.ref p_4, .ref p_5, .int x1] h_3) fun h_6 =>
  (mm_br (x3 = (mm_i 0)) (
  mm_gR h_6 a0 8 1 fun p_21 =>
    mm_gR h_6 p_21 3 5 fun p_22 =>
    mm_rI E h_6 p_22 ((x1 * (mm_i 40)) + x2) fun v_23 =>
    some (.inl (some (.int v_23)), h_6)) (
  (mm_br (x3 = (mm_i 1)) (
  mm_gR h_6 a0 8 6 fun p_18 =>
    mm_cI [] (cl 22 [.ref p_18, .int x2, .int x2] h_6) fun v_20 h_19 =>
    some (.inl (some (.int v_20)), h_19)) (
  (mm_br (x3 = (mm_i 2)) (
  mm_gR h_6 a0 8 6 fun p_13 =>
    mm_gI h_6 p_13 2 2 fun v_14 =>
    (mm_br ((mm_i 0) ≤ v_14) (
    mm_gR h_6 a0 8 6 fun p_15 =>
      mm_cI [] (cl 23 [.ref p_15, .int x2] h_6) fun v_17 h_16 =>
      some (.inl (some (.int v_17)), h_16)) (
    some (.inl (some (.int (mm_i (-1000000)))), h_6)))) (
  mm_gR h_6 a0 8 6 fun p_7 =>
  mm_gR h_6 a0 8 1 fun p_8 =>
  mm_cV [] (cl 21 [.ref p_7, .ref p_8, .int x1] h_6) fun h_9 =>
  mm_gR h_9 a0 8 6 fun p_10 =>
  mm_cI [] (cl 24 [.ref p_10, .int x2] h_9) fun v_12 h_11 =>
  some (.inl (some (.int v_12)), h_11))))))) := rfl
-- PS.days
def mm_r126_0 (E : mm_E) (cl : mm_F) (n : Nat) (a0 : Nat) (x1 : Int32) (x2 : Int32) (h : mm_H) : mm_R := mm_run E cl mm_m126 n 0 [some (.ref a0), some (.int x1), some (.int x2)] [] h
set_option maxRecDepth 20000 in
set_option maxHeartbeats 4000000 in
theorem mm_e126_0 (E : mm_E) (cl : mm_F) (n : Nat) (a0 : Nat) (x1 : Int32) (x2 : Int32) (h : mm_H) :
  mm_r126_0 E cl (n + 1) a0 x1 x2 h =
  mm_cV [] (cl 133 [.ref a0, .int x1] h) fun h_1 =>
  mm_cV [] (cl 134 [.int x2, .int (mm_i 3)] h_1) fun h_2 =>
  mm_gR h_2 a0 8 6 fun p_3 =>
  mm_gR h_2 a0 8 1 fun p_4 =>
  mm_cV [] (cl 20 [.ref p_3, .ref p_4, .int x1] h_2) fun h_5 =>
  (mm_br (x2 = (mm_i 1)) (
  mm_gR h_5 a0 8 6 fun p_14 =>
    mm_gR h_5 a0 8 1 fun p_15 =>
    mm_cV [] (cl 21 [.ref p_14, .ref p_15, .int x1] h_5) fun h_16 =>
    mm_gR h_16 a0 8 6 fun p_17 =>
    mm_cI [] (cl 25 [.ref p_17] h_16) fun v_19 h_18 =>
    some (.inl (some (.int v_19)), h_18)) (
  mm_gR h_5 a0 8 6 fun p_6 =>
    mm_gI h_5 p_6 2 2 fun v_7 =>
    (mm_br ((mm_i 0) ≤ v_7) (
    (mm_br (x2 = (mm_i 0)) (
      mm_gR h_5 a0 8 6 fun p_11 =>
        mm_cI [] (cl 26 [.ref p_11] h_5) fun v_13 h_12 =>
        some (.inl (some (.int v_13)), h_12)) (
      mm_gR h_5 a0 8 6 fun p_8 =>
        mm_cI [] (cl 27 [.ref p_8] h_5) fun v_10 h_9 =>
        some (.inl (some (.int v_10)), h_9)))) (
    (mm_br (x2 = (mm_i 0)) (
      some (.inl (some (.int (mm_i (-1)))), h_5)) (
      some (.inl (some (.int (mm_i (-1000000)))), h_5))))))) := rfl
-- PS.ask
def mm_r127_0 (E : mm_E) (cl : mm_F) (n : Nat) (a0 : Nat) (x1 : Int32) (h : mm_H) : mm_R := mm_run E cl mm_m127 n 0 [some (.ref a0), some (.int x1), none] [] h
set_option maxRecDepth 20000 in
set_option maxHeartbeats 4000000 in
theorem mm_e127_0 (E : mm_E) (cl : mm_F) (n : Nat) (a0 : Nat) (x1 : Int32) (h : mm_H) :
  mm_r127_0 E cl (n + 1) a0 x1 h =
  (mm_br (x1 < (mm_i 0)) (
  some (.inr 1, (h.1, (none, (h.2.2.1 + 1, h.2.2.2 + 6))))) (
  (mm_br ((mm_i 200) < x1) (
    some (.inr 1, (h.1, (none, (h.2.2.1 + 1, h.2.2.2 + 6))))) (
    mm_gR h a0 8 0 fun p_1 =>
      mm_gI h p_1 7 1 fun v_2 =>
      (mm_br (x1 ≤ v_2) (
      mm_gR h a0 8 8 fun p_3 =>
        mm_cI [] (cl 63 [.ref p_3, .int x1] h) fun v_5 h_4 =>
        mm_cV [] (cl 138 [.ref a0, .int v_5] h_4) fun h_6 =>
        (mm_br (v_5 = (mm_i 0)) (
        mm_gR h_6 a0 8 8 fun p_7 =>
          mm_cI [] (cl 71 [.ref p_7] h_6) fun v_9 h_8 =>
          some (.inl (some (.int v_9)), h_8)) (
        some (.inl (some (.int ((mm_i (-1000000000)) - v_5))), h_6)))) (
      some (.inr 1, (h.1, (none, (h.2.2.1 + 1, h.2.2.2 + 6)))))))))) := rfl
-- PS.chain
def mm_r128_0 (E : mm_E) (cl : mm_F) (n : Nat) (a0 : Nat) (x1 : Int32) (x2 : Int32) (h : mm_H) : mm_R := mm_run E cl mm_m128 n 0 [some (.ref a0), some (.int x1), some (.int x2), none, none, none] [] h
def mm_r128_13 (E : mm_E) (cl : mm_F) (n : Nat) (a0 : Nat) (x1 : Int32) (x2 : Int32) (x3 : Int32) (x4 : Int32) (x5 : Int32) (h : mm_H) : mm_R := mm_run E cl mm_m128 n 13 [some (.ref a0), some (.int x1), some (.int x2), some (.int x3), some (.int x4), some (.int x5)] [] h
set_option maxRecDepth 20000 in
set_option maxHeartbeats 4000000 in
theorem mm_e128_0 (E : mm_E) (cl : mm_F) (n : Nat) (a0 : Nat) (x1 : Int32) (x2 : Int32) (h : mm_H) :
  mm_r128_0 E cl (n + 1) a0 x1 x2 h =
  mm_cV [] (cl 133 [.ref a0, .int x1] h) fun h_1 =>
  mm_r128_13 E cl n a0 x1 x2 x1 (mm_i 0) (mm_i 0) h_1 := rfl
set_option maxRecDepth 20000 in
set_option maxHeartbeats 4000000 in
theorem mm_e128_13 (E : mm_E) (cl : mm_F) (n : Nat) (a0 : Nat) (x1 : Int32) (x2 : Int32) (x3 : Int32) (x4 : Int32) (x5 : Int32) (h : mm_H) :
  mm_r128_13 E cl (n + 1) a0 x1 x2 x3 x4 x5 h =
  (mm_br ((mm_i 12) ≤ x5) (
  (mm_br (x2 = (mm_i (-1))) (
    some (.inl (some (.int x4)), h)) (
    some (.inr 0, (h.1, (none, (h.2.2.1 + 1, h.2.2.2 + 6))))))) (
  (mm_br (x3 = (mm_i (-1))) (
    (mm_br (x2 = (mm_i (-1))) (
      some (.inl (some (.int x4)), h)) (
      some (.inr 0, (h.1, (none, (h.2.2.1 + 1, h.2.2.2 + 6))))))) (
    (mm_br (x4 = x2) (
      some (.inl (some (.int x3)), h)) (
      mm_gR h a0 8 1 fun p_1 =>
        mm_cI [] (cl 60 [.ref p_1, .int x3] h) fun v_3 h_2 =>
        mm_r128_13 E cl n a0 x1 x2 v_3 (x4 + (mm_i 1)) (x5 + (mm_i 1)) h_2)))))) := rfl
-- PS.frontier
def mm_r129_0 (E : mm_E) (cl : mm_F) (n : Nat) (a0 : Nat) (x1 : Int32) (h : mm_H) : mm_R := mm_run E cl mm_m129 n 0 [some (.ref a0), some (.int x1), none, none, none, none] [] h
def mm_r129_29 (E : mm_E) (cl : mm_F) (n : Nat) (a0 : Nat) (x1 : Int32) (x2 : Int32) (x3 : Int32) (x4 : Int32) (o5 : Option Value) (h : mm_H) : mm_R := mm_run E cl mm_m129 n 29 [some (.ref a0), some (.int x1), some (.int x2), some (.int x3), some (.int x4), o5] [] h
set_option maxRecDepth 20000 in
set_option maxHeartbeats 4000000 in
theorem mm_e129_0 (E : mm_E) (cl : mm_F) (n : Nat) (a0 : Nat) (x1 : Int32) (h : mm_H) :
  mm_r129_0 E cl (n + 1) a0 x1 h =
  (mm_br (x1 < (mm_i (-1))) (
  some (.inr 0, (h.1, (none, (h.2.2.1 + 1, h.2.2.2 + 6))))) (
  (mm_br (x1 ≤ (mm_i 20)) (
    mm_r129_29 E cl n a0 x1 (mm_i 0) (mm_i (-1)) (mm_i 0) none h) (
    some (.inr 0, (h.1, (none, (h.2.2.1 + 1, h.2.2.2 + 6)))))))) := rfl
set_option maxRecDepth 20000 in
set_option maxHeartbeats 4000000 in
theorem mm_e129_29 (E : mm_E) (cl : mm_F) (n : Nat) (a0 : Nat) (x1 : Int32) (x2 : Int32) (x3 : Int32) (x4 : Int32) (o5 : Option Value) (h : mm_H) :
  mm_r129_29 E cl (n + 1) a0 x1 x2 x3 x4 o5 h =
  (mm_br ((mm_i 20) < x4) (
  (mm_br (x1 = (mm_i (-1))) (
    some (.inl (some (.int x2)), h)) (
    some (.inr 0, (h.1, (none, (h.2.2.1 + 1, h.2.2.2 + 6))))))) (
  mm_cI [] (cl 144 [.ref a0, .int x4] h) fun v_2 h_1 =>
    (mm_br (v_2 = (mm_i (-1))) (
    mm_r129_29 E cl n a0 x1 x2 x3 (x4 + (mm_i 1)) (some (.int v_2)) h_1) (
    (mm_br (x3 = (mm_i (-1))) (
      (mm_br (x2 = x1) (
        some (.inl (some (.int x4)), h_1)) (
        mm_r129_29 E cl n a0 x1 (x2 + (mm_i 1)) v_2 (x4 + (mm_i 1)) (some (.int v_2)) h_1))) (
      (mm_br (x3 ≤ v_2) (
        mm_r129_29 E cl n a0 x1 x2 x3 (x4 + (mm_i 1)) (some (.int v_2)) h_1) (
        (mm_br (x2 = x1) (
          some (.inl (some (.int x4)), h_1)) (
          mm_r129_29 E cl n a0 x1 (x2 + (mm_i 1)) v_2 (x4 + (mm_i 1)) (some (.int v_2)) h_1)))))))))) := rfl
-- PS.image
def mm_r130_0 (E : mm_E) (cl : mm_F) (n : Nat) (a0 : Nat) (h : mm_H) : mm_R := mm_run E cl mm_m130 n 0 [some (.ref a0)] [] h
set_option maxRecDepth 20000 in
set_option maxHeartbeats 4000000 in
theorem mm_e130_0 (E : mm_E) (cl : mm_F) (n : Nat) (a0 : Nat) (h : mm_H) :
  mm_r130_0 E cl (n + 1) a0 h =
  mm_gR h a0 8 3 fun p_1 =>
  mm_gR h a0 8 1 fun p_2 =>
  mm_cV [] (cl 34 [.ref p_1, .ref p_2] h) fun h_3 =>
  (mm_bz (mm_i 1) (
  mm_pF h_3 a0 8 12 (.int (mm_i 1)) fun h_4 =>
  some (.inl none, h_4))) := rfl
-- PS.back
def mm_r131_0 (E : mm_E) (cl : mm_F) (n : Nat) (a0 : Nat) (h : mm_H) : mm_R := mm_run E cl mm_m131 n 0 [some (.ref a0)] [] h
set_option maxRecDepth 20000 in
set_option maxHeartbeats 4000000 in
theorem mm_e131_0 (E : mm_E) (cl : mm_F) (n : Nat) (a0 : Nat) (h : mm_H) :
  mm_r131_0 E cl (n + 1) a0 h =
  mm_gI h a0 8 12 fun v_1 =>
  (mm_br (v_1 = (mm_i 0)) (
  (mm_bz (mm_i 0) (some (.inl (some (.int (mm_i 0))), h)))) (
  mm_gR h a0 8 1 fun p_2 =>
    mm_gR h a0 8 3 fun p_3 =>
    mm_cV [] (cl 34 [.ref p_2, .ref p_3] h) fun h_4 =>
    mm_gR h_4 a0 8 4 fun p_5 =>
    mm_cV [] (cl 3 [.ref p_5] h_4) fun h_6 =>
    (mm_bz (mm_i 1) (some (.inl (some (.int (mm_i 1))), h_6))))) := rfl
-- PS.isStage
def mm_r132_0 (E : mm_E) (cl : mm_F) (n : Nat) (a0 : Nat) (x1 : Int32) (h : mm_H) : mm_R := mm_run E cl mm_m132 n 0 [some (.ref a0), some (.int x1)] [] h
set_option maxRecDepth 20000 in
set_option maxHeartbeats 4000000 in
theorem mm_e132_0 (E : mm_E) (cl : mm_F) (n : Nat) (a0 : Nat) (x1 : Int32) (h : mm_H) :
  mm_r132_0 E cl (n + 1) a0 x1 h =
  (mm_br (x1 < (mm_i 0)) (
  (mm_bz (mm_i 0) (some (.inl (some (.int (mm_i 0))), h)))) (
  mm_gR h a0 8 1 fun p_1 =>
    mm_gI h p_1 3 10 fun v_2 =>
    (mm_br (v_2 ≤ x1) (
    (mm_bz (mm_i 0) (some (.inl (some (.int (mm_i 0))), h)))) (
    (mm_bz (mm_i 1) (some (.inl (some (.int (mm_i 1))), h))))))) := rfl
-- PS.checkStage
def mm_r133_0 (E : mm_E) (cl : mm_F) (n : Nat) (a0 : Nat) (x1 : Int32) (h : mm_H) : mm_R := mm_run E cl mm_m133 n 0 [some (.ref a0), some (.int x1)] [] h
set_option maxRecDepth 20000 in
set_option maxHeartbeats 4000000 in
theorem mm_e133_0 (E : mm_E) (cl : mm_F) (n : Nat) (a0 : Nat) (x1 : Int32) (h : mm_H) :
  mm_r133_0 E cl (n + 1) a0 x1 h =
  mm_cI [] (cl 132 [.ref a0, .int x1] h) fun v_2 h_1 =>
  (mm_br (v_2 = (mm_i 0)) (
  some (.inr 0, (h_1.1, (none, (h_1.2.2.1 + 1, h_1.2.2.2 + 6))))) (
  some (.inl none, h_1))) := rfl
-- PS.checkWhat
def mm_r134_0 (E : mm_E) (cl : mm_F) (n : Nat) (x0 : Int32) (x1 : Int32) (h : mm_H) : mm_R := mm_run E cl mm_m134 n 0 [some (.int x0), some (.int x1)] [] h
set_option maxRecDepth 20000 in
set_option maxHeartbeats 4000000 in
theorem mm_e134_0 (E : mm_E) (cl : mm_F) (n : Nat) (x0 : Int32) (x1 : Int32) (h : mm_H) :
  mm_r134_0 E cl (n + 1) x0 x1 h =
  (mm_br (x0 < (mm_i 0)) (
  some (.inr 0, (h.1, (none, (h.2.2.1 + 1, h.2.2.2 + 6))))) (
  (mm_br (x0 < x1) (
    some (.inl none, h)) (
    some (.inr 0, (h.1, (none, (h.2.2.1 + 1, h.2.2.2 + 6)))))))) := rfl
-- PS.checkDay
def mm_r135_0 (E : mm_E) (cl : mm_F) (n : Nat) (x0 : Int32) (h : mm_H) : mm_R := mm_run E cl mm_m135 n 0 [some (.int x0)] [] h
set_option maxRecDepth 20000 in
set_option maxHeartbeats 4000000 in
theorem mm_e135_0 (E : mm_E) (cl : mm_F) (n : Nat) (x0 : Int32) (h : mm_H) :
  mm_r135_0 E cl (n + 1) x0 h =
  (mm_br (x0 < (mm_i 0)) (
  some (.inr 0, (h.1, (none, (h.2.2.1 + 1, h.2.2.2 + 6))))) (
  (mm_br (x0 < (mm_i 40)) (
    some (.inl none, h)) (
    some (.inr 0, (h.1, (none, (h.2.2.1 + 1, h.2.2.2 + 6)))))))) := rfl
-- PS.checkTime
def mm_r136_0 (E : mm_E) (cl : mm_F) (n : Nat) (x0 : Int32) (h : mm_H) : mm_R := mm_run E cl mm_m136 n 0 [some (.int x0)] [] h
set_option maxRecDepth 20000 in
set_option maxHeartbeats 4000000 in
theorem mm_e136_0 (E : mm_E) (cl : mm_F) (n : Nat) (x0 : Int32) (h : mm_H) :
  mm_r136_0 E cl (n + 1) x0 h =
  (mm_br (x0 < (mm_i 0)) (
  some (.inr 1, (h.1, (none, (h.2.2.1 + 1, h.2.2.2 + 6))))) (
  (mm_br (x0 < (mm_i 120)) (
    some (.inl none, h)) (
    some (.inr 1, (h.1, (none, (h.2.2.1 + 1, h.2.2.2 + 6)))))))) := rfl
-- PS.fits
def mm_r137_0 (E : mm_E) (cl : mm_F) (n : Nat) (x0 : Int32) (x1 : Int32) (h : mm_H) : mm_R := mm_run E cl mm_m137 n 0 [some (.int x0), some (.int x1), none] [] h
def mm_r137_16 (E : mm_E) (cl : mm_F) (n : Nat) (x0 : Int32) (x1 : Int32) (o2 : Option Value) (s0 : Int32) (h : mm_H) : mm_R := mm_run E cl mm_m137 n 16 [some (.int x0), some (.int x1), o2] [.int s0] h
set_option maxRecDepth 20000 in
set_option maxHeartbeats 4000000 in
theorem mm_e137_0 (E : mm_E) (cl : mm_F) (n : Nat) (x0 : Int32) (x1 : Int32) (h : mm_H) :
  mm_r137_0 E cl (n + 1) x0 x1 h =
  (mm_br (x0 = (mm_i 5)) (
  mm_r137_16 E cl n x0 x1 none (mm_i (-1)) h) (
  (mm_br (x0 = (mm_i 6)) (
    mm_r137_16 E cl n x0 x1 none (mm_i (-1)) h) (
    mm_r137_16 E cl n x0 x1 none (mm_i 0) h)))) := rfl
set_option maxRecDepth 20000 in
set_option maxHeartbeats 4000000 in
theorem mm_e137_16 (E : mm_E) (cl : mm_F) (n : Nat) (x0 : Int32) (x1 : Int32) (o2 : Option Value) (s0 : Int32) (h : mm_H) :
  mm_r137_16 E cl (n + 1) x0 x1 o2 s0 h =
  (mm_br (x0 < (mm_i 0)) (
  (mm_bz (mm_i 0) (some (.inl (some (.int (mm_i 0))), h)))) (
  mm_ln E h E.2.1 fun v_1 =>
    (mm_br (v_1 ≤ x0) (
    (mm_bz (mm_i 0) (some (.inl (some (.int (mm_i 0))), h)))) (
    (mm_br (x1 < s0) (
      (mm_bz (mm_i 0) (some (.inl (some (.int (mm_i 0))), h)))) (
      mm_rI E h E.2.1 x0 fun v_2 =>
        (mm_br (v_2 < x1) (
        (mm_bz (mm_i 0) (some (.inl (some (.int (mm_i 0))), h)))) (
        (mm_bz (mm_i 1) (some (.inl (some (.int (mm_i 1))), h))))))))))) := rfl
-- PS.endReading
def mm_r138_0 (E : mm_E) (cl : mm_F) (n : Nat) (a0 : Nat) (x1 : Int32) (h : mm_H) : mm_R := mm_run E cl mm_m138 n 0 [some (.ref a0), some (.int x1)] [] h
set_option maxRecDepth 20000 in
set_option maxHeartbeats 4000000 in
theorem mm_e138_0 (E : mm_E) (cl : mm_F) (n : Nat) (a0 : Nat) (x1 : Int32) (h : mm_H) :
  mm_r138_0 E cl (n + 1) a0 x1 h =
  (mm_br (x1 = (mm_i 0)) (
  mm_pF h a0 8 13 (.int (mm_i (-1))) fun h_6 =>
    mm_gR h_6 a0 8 0 fun p_7 =>
    mm_pF h_6 p_7 7 1 (.int (mm_i 0)) fun h_8 =>
    some (.inl none, h_8)) (
  mm_gR h a0 8 0 fun p_1 =>
    mm_gI h p_1 7 3 fun v_2 =>
    mm_pF h a0 8 13 (.int v_2) fun h_3 =>
    mm_gR h_3 a0 8 0 fun p_4 =>
    mm_pF h_3 p_4 7 1 (.int (mm_i 0)) fun h_5 =>
    some (.inl none, h_5))) := rfl
-- PS.changeZ
def mm_r139_0 (E : mm_E) (cl : mm_F) (n : Nat) (a0 : Nat) (x1 : Int32) (h : mm_H) : mm_R := mm_run E cl mm_m139 n 0 [some (.ref a0), some (.int x1), none] [] h
set_option maxRecDepth 20000 in
set_option maxHeartbeats 4000000 in
theorem mm_e139_0 (E : mm_E) (cl : mm_F) (n : Nat) (a0 : Nat) (x1 : Int32) (h : mm_H) :
  mm_r139_0 E cl (n + 1) a0 x1 h =
  (mm_br (x1 < (mm_i 0)) (
  some (.inr 1, (h.1, (none, (h.2.2.1 + 1, h.2.2.2 + 6))))) (
  (mm_br (x1 ≤ (mm_i 400)) (
    mm_gR h a0 8 1 fun p_1 =>
      mm_gI h p_1 3 11 fun v_2 =>
      mm_gR h a0 8 1 fun p_3 =>
      mm_pF h p_3 3 11 (.int x1) fun h_4 =>
      mm_gR h_4 a0 8 1 fun p_5 =>
      mm_cV [] (cl 43 [.ref p_5] h_4) fun h_6 =>
      mm_gR h_6 a0 8 4 fun p_7 =>
      mm_cV [] (cl 1 [.ref p_7, .int (mm_i 7), .int (mm_i 0), .int v_2] h_6) fun h_8 =>
      some (.inl (some (.int v_2)), h_8)) (
    some (.inr 1, (h.1, (none, (h.2.2.1 + 1, h.2.2.2 + 6)))))))) := rfl
-- PS.changeTold
def mm_r140_0 (E : mm_E) (cl : mm_F) (n : Nat) (a0 : Nat) (x1 : Int32) (x2 : Int32) (x3 : Int32) (h : mm_H) : mm_R := mm_run E cl mm_m140 n 0 [some (.ref a0), some (.int x1), some (.int x2), some (.int x3), none] [] h
set_option maxRecDepth 20000 in
set_option maxHeartbeats 4000000 in
theorem mm_e140_0 (E : mm_E) (cl : mm_F) (n : Nat) (a0 : Nat) (x1 : Int32) (x2 : Int32) (x3 : Int32) (h : mm_H) :
  mm_r140_0 E cl (n + 1) a0 x1 x2 x3 h =
  mm_cI [] (cl 137 [.int x2, .int x3] h) fun v_2 h_1 =>
  (mm_br (v_2 = (mm_i 0)) (
  some (.inr 1, (h_1.1, (none, (h_1.2.2.1 + 1, h_1.2.2.2 + 6))))) (
  mm_gR h_1 a0 8 1 fun p_3 =>
    mm_cI [] (cl 30 [.ref p_3, .int x1, .int x2] h_1) fun v_5 h_4 =>
    mm_gR h_4 a0 8 1 fun p_6 =>
    mm_cV [] (cl 31 [.ref p_6, .int x1, .int x2, .int x3] h_4) fun h_7 =>
    mm_gR h_7 a0 8 1 fun p_8 =>
    mm_cV [] (cl 43 [.ref p_8] h_7) fun h_9 =>
    mm_gR h_9 a0 8 4 fun p_10 =>
    mm_cV [] (cl 1 [.ref p_10, .int x2, .int x1, .int v_5] h_9) fun h_11 =>
    some (.inl (some (.int v_5)), h_11))) := rfl
-- PS.takeBack
def mm_r141_0 (E : mm_E) (cl : mm_F) (n : Nat) (a0 : Nat) (x1 : Int32) (x2 : Int32) (x3 : Int32) (h : mm_H) : mm_R := mm_run E cl mm_m141 n 0 [some (.ref a0), some (.int x1), some (.int x2), some (.int x3)] [] h
set_option maxRecDepth 20000 in
set_option maxHeartbeats 4000000 in
theorem mm_e141_0 (E : mm_E) (cl : mm_F) (n : Nat) (a0 : Nat) (x1 : Int32) (x2 : Int32) (x3 : Int32) (h : mm_H) :
  mm_r141_0 E cl (n + 1) a0 x1 x2 x3 h =
  (mm_br (x1 = (mm_i 7)) (
  mm_gR h a0 8 1 fun p_7 =>
    mm_pF h p_7 3 11 (.int x3) fun h_8 =>
    some (.inl none, h_8)) (
  (mm_br (x1 = (mm_i 8)) (
  mm_gR h a0 8 1 fun p_5 =>
    mm_cV [] (cl 37 [.ref p_5] h) fun h_6 =>
    some (.inl none, h_6)) (
  (mm_br (x1 = (mm_i 9)) (
  mm_gR h a0 8 1 fun p_3 =>
    mm_cV [] (cl 39 [.ref p_3, .int x2, .int x3] h) fun h_4 =>
    some (.inl none, h_4)) (
  mm_gR h a0 8 1 fun p_1 =>
  mm_cV [] (cl 31 [.ref p_1, .int x2, .int x1, .int x3] h) fun h_2 =>
  some (.inl none, h_2))))))) := rfl
-- PS.takeBest
def mm_r142_0 (E : mm_E) (cl : mm_F) (n : Nat) (a0 : Nat) (h : mm_H) : mm_R := mm_run E cl mm_m142 n 0 [some (.ref a0), none] [] h
def mm_r142_2 (E : mm_E) (cl : mm_F) (n : Nat) (a0 : Nat) (x1 : Int32) (h : mm_H) : mm_R := mm_run E cl mm_m142 n 2 [some (.ref a0), some (.int x1)] [] h
set_option maxRecDepth 20000 in
set_option maxHeartbeats 4000000 in
theorem mm_e142_0 (E : mm_E) (cl : mm_F) (n : Nat) (a0 : Nat) (h : mm_H) :
  mm_r142_0 E cl (n + 1) a0 h =
  mm_r142_2 E cl n a0 (mm_i 0) h := rfl
set_option maxRecDepth 20000 in
set_option maxHeartbeats 4000000 in
theorem mm_e142_2 (E : mm_E) (cl : mm_F) (n : Nat) (a0 : Nat) (x1 : Int32) (h : mm_H) :
  mm_r142_2 E cl (n + 1) a0 x1 h =
  mm_gR h a0 8 1 fun p_1 =>
  mm_gI h p_1 3 10 fun v_2 =>
  (mm_br (v_2 ≤ x1) (
  some (.inl none, h)) (
  mm_gR h a0 8 1 fun p_3 =>
    mm_gR h p_3 3 4 fun p_4 =>
    mm_gR h a0 8 5 fun p_5 =>
    mm_cI [] (cl 6 [.ref p_5, .int x1] h) fun v_7 h_6 =>
    mm_wI h_6 p_4 x1 v_7 fun h_8 =>
    mm_r142_2 E cl n a0 (x1 + (mm_i 1)) h_8)) := rfl
-- PS.priceWith
def mm_r143_0 (E : mm_E) (cl : mm_F) (n : Nat) (a0 : Nat) (x1 : Int32) (x2 : Int32) (x3 : Int32) (h : mm_H) : mm_R := mm_run E cl mm_m143 n 0 [some (.ref a0), some (.int x1), some (.int x2), some (.int x3)] [] h
set_option maxRecDepth 20000 in
set_option maxHeartbeats 4000000 in
theorem mm_e143_0 (E : mm_E) (cl : mm_F) (n : Nat) (a0 : Nat) (x1 : Int32) (x2 : Int32) (x3 : Int32) (h : mm_H) :
  mm_r143_0 E cl (n + 1) a0 x1 x2 x3 h =
  mm_gR h a0 8 2 fun p_1 =>
  mm_gR h a0 8 1 fun p_2 =>
  mm_cV [] (cl 35 [.ref p_1, .ref p_2] h) fun h_3 =>
  mm_gR h_3 a0 8 2 fun p_4 =>
  mm_cV [] (cl 31 [.ref p_4, .int x1, .int x2, .int x3] h_3) fun h_5 =>
  mm_gR h_5 a0 8 2 fun p_6 =>
  mm_cV [] (cl 43 [.ref p_6] h_5) fun h_7 =>
  mm_gR h_7 a0 8 5 fun p_8 =>
  mm_gR h_7 a0 8 2 fun p_9 =>
  mm_cI [] (cl 5 [.ref p_8, .ref p_9] h_7) fun v_11 h_10 =>
  some (.inl (some (.int v_11)), h_10) := rfl
-- PS.evenPrice
def mm_r144_0 (E : mm_E) (cl : mm_F) (n : Nat) (a0 : Nat) (x1 : Int32) (h : mm_H) : mm_R := mm_run E cl mm_m144 n 0 [some (.ref a0), some (.int x1), none] [] h
def mm_r144_54 (E : mm_E) (cl : mm_F) (n : Nat) (a0 : Nat) (x1 : Int32) (x2 : Int32) (h : mm_H) : mm_R := mm_run E cl mm_m144 n 54 [some (.ref a0), some (.int x1), some (.int x2)] [] h
set_option maxRecDepth 20000 in
set_option maxHeartbeats 4000000 in
theorem mm_e144_0 (E : mm_E) (cl : mm_F) (n : Nat) (a0 : Nat) (x1 : Int32) (h : mm_H) :
  mm_r144_0 E cl (n + 1) a0 x1 h =
  mm_gI h a0 8 11 fun v_1 =>
  mm_gR h a0 8 1 fun p_2 =>
  mm_gI h p_2 3 12 fun v_3 =>
  (mm_br (v_1 = v_3) (
  mm_gI h a0 8 10 fun v_4 =>
    mm_cI [] (cl 61 [.int v_4, .int x1] h) fun v_6 h_5 =>
    (mm_br (v_6 = (mm_i 0)) (
    mm_gR h_5 a0 8 2 fun p_9 =>
      mm_gR h_5 a0 8 1 fun p_10 =>
      mm_cV [] (cl 35 [.ref p_9, .ref p_10] h_5) fun h_11 =>
      mm_r144_54 E cl n a0 x1 (mm_i 0) h_11) (
    mm_gR h_5 a0 8 9 fun p_7 =>
      mm_rI E h_5 p_7 x1 fun v_8 =>
      some (.inl (some (.int v_8)), h_5)))) (
  mm_gR h a0 8 1 fun p_12 =>
    mm_gI h p_12 3 12 fun v_13 =>
    mm_pF h a0 8 11 (.int v_13) fun h_14 =>
    mm_pF h_14 a0 8 10 (.int (mm_i 0)) fun h_15 =>
    mm_gI h_15 a0 8 10 fun v_16 =>
    mm_cI [] (cl 61 [.int v_16, .int x1] h_15) fun v_18 h_17 =>
    (mm_br (v_18 = (mm_i 0)) (
    mm_gR h_17 a0 8 2 fun p_21 =>
      mm_gR h_17 a0 8 1 fun p_22 =>
      mm_cV [] (cl 35 [.ref p_21, .ref p_22] h_17) fun h_23 =>
      mm_r144_54 E cl n a0 x1 (mm_i 0) h_23) (
    mm_gR h_17 a0 8 9 fun p_19 =>
      mm_rI E h_17 p_19 x1 fun v_20 =>
      some (.inl (some (.int v_20)), h_17))))) := rfl
set_option maxRecDepth 20000 in
set_option maxHeartbeats 4000000 in
theorem mm_e144_54 (E : mm_E) (cl : mm_F) (n : Nat) (a0 : Nat) (x1 : Int32) (x2 : Int32) (h : mm_H) :
  mm_r144_54 E cl (n + 1) a0 x1 x2 h =
  mm_gR h a0 8 2 fun p_1 =>
  mm_gI h p_1 3 10 fun v_2 =>
  (mm_br (v_2 ≤ x2) (
  mm_gR h a0 8 9 fun p_3 =>
    mm_gR h a0 8 5 fun p_4 =>
    mm_gR h a0 8 2 fun p_5 =>
    mm_cI [] (cl 5 [.ref p_4, .ref p_5] h) fun v_7 h_6 =>
    mm_wI h_6 p_3 x1 v_7 fun h_8 =>
    mm_gI h_8 a0 8 10 fun v_9 =>
    mm_pF h_8 a0 8 10 (.int (v_9 ||| ((mm_i 1) <<< (x1 &&& 31)))) fun h_10 =>
    mm_gR h_10 a0 8 9 fun p_11 =>
    mm_rI E h_10 p_11 x1 fun v_12 =>
    some (.inl (some (.int v_12)), h_10)) (
  mm_gR h a0 8 2 fun p_13 =>
    mm_gR h a0 8 2 fun p_14 =>
    mm_gR h p_14 3 3 fun p_15 =>
    mm_rI E h p_15 x2 fun v_16 =>
    (mm_br (v_16 = (mm_i 0)) (
    mm_cV [] (cl 31 [.ref p_13, .int x2, .int (mm_i 5), .int x1] h) fun h_18 =>
      mm_r144_54 E cl n a0 x1 (x2 + (mm_i 1)) h_18) (
    mm_cV [] (cl 31 [.ref p_13, .int x2, .int (mm_i 5), .int (mm_i (-1))] h) fun h_17 =>
      mm_r144_54 E cl n a0 x1 (x2 + (mm_i 1)) h_17)))) := rfl
-- Mod.thrown
def mm_r145_0 (E : mm_E) (cl : mm_F) (n : Nat) (a0 : Nat) (h : mm_H) : mm_R := mm_run E cl mm_m145 n 0 [some (.ref a0)] [] h
set_option maxRecDepth 20000 in
set_option maxHeartbeats 4000000 in
theorem mm_e145_0 (E : mm_E) (cl : mm_F) (n : Nat) (a0 : Nat) (h : mm_H) :
  mm_r145_0 E cl (n + 1) a0 h =
  mm_gI h a0 9 0 fun v_1 =>
  some (.inl (some (.int v_1)), h) := rfl
-- Mod.fail
def mm_r146_0 (E : mm_E) (cl : mm_F) (n : Nat) (a0 : Nat) (x1 : Int32) (h : mm_H) : mm_R := mm_run E cl mm_m146 n 0 [some (.ref a0), some (.int x1)] [] h
set_option maxRecDepth 20000 in
set_option maxHeartbeats 4000000 in
theorem mm_e146_0 (E : mm_E) (cl : mm_F) (n : Nat) (a0 : Nat) (x1 : Int32) (h : mm_H) :
  mm_r146_0 E cl (n + 1) a0 x1 h =
  mm_pF h a0 9 0 (.int x1) fun h_1 =>
  some (.inl (some (.int (mm_i 0))), h_1) := rfl
-- Mod.isIn
def mm_r147_0 (E : mm_E) (cl : mm_F) (n : Nat) (x0 : Int32) (x1 : Int32) (x2 : Int32) (h : mm_H) : mm_R := mm_run E cl mm_m147 n 0 [some (.int x0), some (.int x1), some (.int x2)] [] h
set_option maxRecDepth 20000 in
set_option maxHeartbeats 4000000 in
theorem mm_e147_0 (E : mm_E) (cl : mm_F) (n : Nat) (x0 : Int32) (x1 : Int32) (x2 : Int32) (h : mm_H) :
  mm_r147_0 E cl (n + 1) x0 x1 x2 h =
  (mm_br (x0 < x1) (
  (mm_bz (mm_i 0) (some (.inl (some (.int (mm_i 0))), h)))) (
  (mm_br (x2 < x0) (
    (mm_bz (mm_i 0) (some (.inl (some (.int (mm_i 0))), h)))) (
    (mm_bz (mm_i 1) (some (.inl (some (.int (mm_i 1))), h))))))) := rfl
-- Mod.init
def mm_r148_0 (E : mm_E) (cl : mm_F) (n : Nat) (a0 : Nat) (h : mm_H) : mm_R := mm_run E cl mm_m148 n 0 [some (.ref a0)] [] h
set_option maxRecDepth 20000 in
set_option maxHeartbeats 4000000 in
theorem mm_e148_0 (E : mm_E) (cl : mm_F) (n : Nat) (a0 : Nat) (h : mm_H) :
  mm_r148_0 E cl (n + 1) a0 h =
  mm_nn (mm_i 190) fun k_3 => mm_al h (.inr (.inl (k_3, fun _ => 0))) k_3 fun p_1 h_2 =>
  mm_pF h_2 a0 9 1 (.ref p_1) fun h_4 =>
  mm_nn (mm_i 190) fun k_7 => mm_al h_4 (.inr (.inl (k_7, fun _ => 0))) k_7 fun p_5 h_6 =>
  mm_pF h_6 a0 9 2 (.ref p_5) fun h_8 =>
  mm_nn (mm_i 3800) fun k_11 => mm_al h_8 (.inr (.inl (k_11, fun _ => 0))) k_11 fun p_9 h_10 =>
  mm_pF h_10 a0 9 3 (.ref p_9) fun h_12 =>
  mm_nn (mm_i 12) fun k_15 => mm_al h_12 (.inr (.inl (k_15, fun _ => 0))) k_15 fun p_13 h_14 =>
  mm_pF h_14 a0 9 5 (.ref p_13) fun h_16 =>
  mm_nn (mm_i 480) fun k_19 => mm_al h_16 (.inr (.inl (k_19, fun _ => 0))) k_19 fun p_17 h_18 =>
  mm_pF h_18 a0 9 6 (.ref p_17) fun h_20 =>
  mm_nn (mm_i 12) fun k_23 => mm_al h_20 (.inr (.inl (k_23, fun _ => 0))) k_23 fun p_21 h_22 =>
  mm_pF h_22 a0 9 7 (.ref p_21) fun h_24 =>
  mm_nn (mm_i 1440) fun k_27 => mm_al h_24 (.inr (.inl (k_27, fun _ => 0))) k_27 fun p_25 h_26 =>
  mm_pF h_26 a0 9 8 (.ref p_25) fun h_28 =>
  mm_nn (mm_i 1440) fun k_31 => mm_al h_28 (.inr (.inl (k_31, fun _ => 0))) k_31 fun p_29 h_30 =>
  mm_pF h_30 a0 9 9 (.ref p_29) fun h_32 =>
  mm_nn (mm_i 120) fun k_35 => mm_al h_32 (.inr (.inl (k_35, fun _ => 0))) k_35 fun p_33 h_34 =>
  mm_pF h_34 a0 9 10 (.ref p_33) fun h_36 =>
  mm_nn (mm_i 120) fun k_39 => mm_al h_36 (.inr (.inl (k_39, fun _ => 0))) k_39 fun p_37 h_38 =>
  mm_pF h_38 a0 9 11 (.ref p_37) fun h_40 =>
  mm_nn (mm_i 120) fun k_43 => mm_al h_40 (.inr (.inl (k_43, fun _ => 0))) k_43 fun p_41 h_42 =>
  mm_pF h_42 a0 9 12 (.ref p_41) fun h_44 =>
  mm_nn (mm_i 120) fun k_47 => mm_al h_44 (.inr (.inl (k_47, fun _ => 0))) k_47 fun p_45 h_46 =>
  mm_pF h_46 a0 9 13 (.ref p_45) fun h_48 =>
  mm_nn (mm_i 2880) fun k_51 => mm_al h_48 (.inr (.inl (k_51, fun _ => 0))) k_51 fun p_49 h_50 =>
  mm_pF h_50 a0 9 14 (.ref p_49) fun h_52 =>
  mm_nn (mm_i 12) fun k_55 => mm_al h_52 (.inr (.inl (k_55, fun _ => 0))) k_55 fun p_53 h_54 =>
  mm_pF h_54 a0 9 16 (.ref p_53) fun h_56 =>
  mm_nn (mm_i 12) fun k_59 => mm_al h_56 (.inr (.inl (k_59, fun _ => 0))) k_59 fun p_57 h_58 =>
  mm_pF h_58 a0 9 17 (.ref p_57) fun h_60 =>
  mm_nn (mm_i 40) fun k_63 => mm_al h_60 (.inr (.inl (k_63, fun _ => 0))) k_63 fun p_61 h_62 =>
  mm_pF h_62 a0 9 19 (.ref p_61) fun h_64 =>
  mm_nn (mm_i 41) fun k_67 => mm_al h_64 (.inr (.inl (k_67, fun _ => 0))) k_67 fun p_65 h_66 =>
  mm_pF h_66 a0 9 20 (.ref p_65) fun h_68 =>
  mm_nn (mm_i 190) fun k_71 => mm_al h_68 (.inr (.inl (k_71, fun _ => 0))) k_71 fun p_69 h_70 =>
  mm_pF h_70 a0 9 21 (.ref p_69) fun h_72 =>
  mm_nn (mm_i 12) fun k_75 => mm_al h_72 (.inr (.inl (k_75, fun _ => 0))) k_75 fun p_73 h_74 =>
  mm_pF h_74 a0 9 22 (.ref p_73) fun h_76 =>
  mm_nn (mm_i 480) fun k_79 => mm_al h_76 (.inr (.inl (k_79, fun _ => 0))) k_79 fun p_77 h_78 =>
  mm_pF h_78 a0 9 23 (.ref p_77) fun h_80 =>
  mm_nn (mm_i 400) fun k_83 => mm_al h_80 (.inr (.inl (k_83, fun _ => 0))) k_83 fun p_81 h_82 =>
  mm_pF h_82 a0 9 25 (.ref p_81) fun h_84 =>
  mm_pF h_84 a0 9 34 (.int (mm_i (-1))) fun h_85 =>
  mm_gR h_85 a0 9 1 fun p_86 =>
  mm_cV [] (cl 149 [.ref p_86] h_85) fun h_87 =>
  some (.inl none, h_87) := rfl
-- Mod.bare
def mm_r149_0 (E : mm_E) (cl : mm_F) (n : Nat) (a0 : Nat) (h : mm_H) : mm_R := mm_run E cl mm_m149 n 0 [some (.ref a0), none] [] h
def mm_r149_2 (E : mm_E) (cl : mm_F) (n : Nat) (a0 : Nat) (x1 : Int32) (h : mm_H) : mm_R := mm_run E cl mm_m149 n 2 [some (.ref a0), some (.int x1)] [] h
set_option maxRecDepth 20000 in
set_option maxHeartbeats 4000000 in
theorem mm_e149_0 (E : mm_E) (cl : mm_F) (n : Nat) (a0 : Nat) (h : mm_H) :
  mm_r149_0 E cl (n + 1) a0 h =
  mm_r149_2 E cl n a0 (mm_i 0) h := rfl
set_option maxRecDepth 20000 in
set_option maxHeartbeats 4000000 in
theorem mm_e149_2 (E : mm_E) (cl : mm_F) (n : Nat) (a0 : Nat) (x1 : Int32) (h : mm_H) :
  mm_r149_2 E cl (n + 1) a0 x1 h =
  (mm_br ((mm_i 190) ≤ x1) (
  mm_wI h a0 (mm_i 1) (mm_i 165) fun h_1 =>
    some (.inl none, h_1)) (
  mm_wI h a0 x1 (mm_i 0) fun h_2 =>
    mm_r149_2 E cl n a0 (x1 + (mm_i 1)) h_2)) := rfl
-- Mod.many
def mm_r150_0 (E : mm_E) (cl : mm_F) (n : Nat) (a0 : Nat) (h : mm_H) : mm_R := mm_run E cl mm_m150 n 0 [some (.ref a0)] [] h
set_option maxRecDepth 20000 in
set_option maxHeartbeats 4000000 in
theorem mm_e150_0 (E : mm_E) (cl : mm_F) (n : Nat) (a0 : Nat) (h : mm_H) :
  mm_r150_0 E cl (n + 1) a0 h =
  mm_gR h a0 9 1 fun p_1 =>
  mm_rI E h p_1 (mm_i 0) fun v_2 =>
  some (.inl (some (.int v_2)), h) := rfl
-- Mod.isStage
def mm_r151_0 (E : mm_E) (cl : mm_F) (n : Nat) (a0 : Nat) (x1 : Int32) (h : mm_H) : mm_R := mm_run E cl mm_m151 n 0 [some (.ref a0), some (.int x1)] [] h
set_option maxRecDepth 20000 in
set_option maxHeartbeats 4000000 in
theorem mm_e151_0 (E : mm_E) (cl : mm_F) (n : Nat) (a0 : Nat) (x1 : Int32) (h : mm_H) :
  mm_r151_0 E cl (n + 1) a0 x1 h =
  mm_cI [] (cl 150 [.ref a0] h) fun v_2 h_1 =>
  mm_cI [] (cl 147 [.int x1, .int (mm_i 0), .int (v_2 - (mm_i 1))] h_1) fun v_4 h_3 =>
  (mm_bz v_4 (some (.inl (some (.int v_4)), h_3))) := rfl
-- Mod.of
def mm_r152_0 (E : mm_E) (cl : mm_F) (n : Nat) (a0 : Nat) (x1 : Int32) (x2 : Int32) (h : mm_H) : mm_R := mm_run E cl mm_m152 n 0 [some (.ref a0), some (.int x1), some (.int x2)] [] h
set_option maxRecDepth 20000 in
set_option maxHeartbeats 4000000 in
theorem mm_e152_0 (E : mm_E) (cl : mm_F) (n : Nat) (a0 : Nat) (x1 : Int32) (x2 : Int32) (h : mm_H) :
  mm_r152_0 E cl (n + 1) a0 x1 x2 h =
  mm_gR h a0 9 1 fun p_1 =>
  mm_rI E h p_1 (((mm_i 3) + ((mm_i 7) * x1)) + x2) fun v_2 =>
  some (.inl (some (.int v_2)), h) := rfl
-- Mod.lay
def mm_r153_0 (E : mm_E) (cl : mm_F) (n : Nat) (a0 : Nat) (x1 : Int32) (x2 : Int32) (x3 : Int32) (h : mm_H) : mm_R := mm_run E cl mm_m153 n 0 [some (.ref a0), some (.int x1), some (.int x2), some (.int x3), none, none] [] h
def mm_r153_11 (E : mm_E) (cl : mm_F) (n : Nat) (a0 : Nat) (x1 : Int32) (x2 : Int32) (x3 : Int32) (x4 : Int32) (x5 : Int32) (h : mm_H) : mm_R := mm_run E cl mm_m153 n 11 [some (.ref a0), some (.int x1), some (.int x2), some (.int x3), some (.int x4), some (.int x5)] [] h
set_option maxRecDepth 20000 in
set_option maxHeartbeats 4000000 in
theorem mm_e153_0 (E : mm_E) (cl : mm_F) (n : Nat) (a0 : Nat) (x1 : Int32) (x2 : Int32) (x3 : Int32) (h : mm_H) :
  mm_r153_0 E cl (n + 1) a0 x1 x2 x3 h =
  mm_r153_11 E cl n a0 x1 x2 x3 ((mm_i 3) + ((mm_i 7) * x1)) (mm_i 0) h := rfl
set_option maxRecDepth 20000 in
set_option maxHeartbeats 4000000 in
theorem mm_e153_11 (E : mm_E) (cl : mm_F) (n : Nat) (a0 : Nat) (x1 : Int32) (x2 : Int32) (x3 : Int32) (x4 : Int32) (x5 : Int32) (h : mm_H) :
  mm_r153_11 E cl (n + 1) a0 x1 x2 x3 x4 x5 h =
  (mm_br ((mm_i 7) ≤ x5) (
  mm_wI h a0 (x4 + (mm_i 0)) x2 fun h_1 =>
    mm_wI h_1 a0 (x4 + (mm_i 1)) x3 fun h_2 =>
    mm_wI h_2 a0 (x4 + (mm_i 5)) (mm_i (-1)) fun h_3 =>
    mm_wI h_3 a0 (x4 + (mm_i 6)) (mm_i (-1)) fun h_4 =>
    some (.inl none, h_4)) (
  mm_wI h a0 (x4 + x5) (mm_i 0) fun h_5 =>
    mm_r153_11 E cl n a0 x1 x2 x3 x4 (x5 + (mm_i 1)) h_5)) := rfl
-- Mod.join
def mm_r154_0 (E : mm_E) (cl : mm_F) (n : Nat) (a0 : Nat) (x1 : Int32) (x2 : Int32) (h : mm_H) : mm_R := mm_run E cl mm_m154 n 0 [some (.ref a0), some (.int x1), some (.int x2)] [] h
set_option maxRecDepth 20000 in
set_option maxHeartbeats 4000000 in
theorem mm_e154_0 (E : mm_E) (cl : mm_F) (n : Nat) (a0 : Nat) (x1 : Int32) (x2 : Int32) (h : mm_H) :
  mm_r154_0 E cl (n + 1) a0 x1 x2 h =
  mm_rI E h a0 (mm_i 2) fun v_1 =>
  mm_wI h a0 ((mm_i 159) + ((mm_i 2) * v_1)) x1 fun h_2 =>
  mm_rI E h_2 a0 (mm_i 2) fun v_3 =>
  mm_wI h_2 a0 (((mm_i 159) + ((mm_i 2) * v_3)) + (mm_i 1)) x2 fun h_4 =>
  mm_rI E h_4 a0 (mm_i 2) fun v_5 =>
  mm_wI h_4 a0 (mm_i 2) (v_5 + (mm_i 1)) fun h_6 =>
  some (.inl none, h_6) := rfl
-- Mod.from
def mm_r155_0 (E : mm_E) (cl : mm_F) (n : Nat) (a0 : Nat) (x1 : Int32) (h : mm_H) : mm_R := mm_run E cl mm_m155 n 0 [some (.ref a0), some (.int x1)] [] h
set_option maxRecDepth 20000 in
set_option maxHeartbeats 4000000 in
theorem mm_e155_0 (E : mm_E) (cl : mm_F) (n : Nat) (a0 : Nat) (x1 : Int32) (h : mm_H) :
  mm_r155_0 E cl (n + 1) a0 x1 h =
  mm_gR h a0 9 1 fun p_1 =>
  mm_rI E h p_1 ((mm_i 159) + ((mm_i 2) * x1)) fun v_2 =>
  some (.inl (some (.int v_2)), h) := rfl
-- Mod.to
def mm_r156_0 (E : mm_E) (cl : mm_F) (n : Nat) (a0 : Nat) (x1 : Int32) (h : mm_H) : mm_R := mm_run E cl mm_m156 n 0 [some (.ref a0), some (.int x1)] [] h
set_option maxRecDepth 20000 in
set_option maxHeartbeats 4000000 in
theorem mm_e156_0 (E : mm_E) (cl : mm_F) (n : Nat) (a0 : Nat) (x1 : Int32) (h : mm_H) :
  mm_r156_0 E cl (n + 1) a0 x1 h =
  mm_gR h a0 9 1 fun p_1 =>
  mm_rI E h p_1 (((mm_i 159) + ((mm_i 2) * x1)) + (mm_i 1)) fun v_2 =>
  some (.inl (some (.int v_2)), h) := rfl
-- Mod.suppliersOf
def mm_r157_0 (E : mm_E) (cl : mm_F) (n : Nat) (a0 : Nat) (x1 : Int32) (h : mm_H) : mm_R := mm_run E cl mm_m157 n 0 [some (.ref a0), some (.int x1), none, none] [] h
def mm_r157_4 (E : mm_E) (cl : mm_F) (n : Nat) (a0 : Nat) (x1 : Int32) (x2 : Int32) (x3 : Int32) (h : mm_H) : mm_R := mm_run E cl mm_m157 n 4 [some (.ref a0), some (.int x1), some (.int x2), some (.int x3)] [] h
set_option maxRecDepth 20000 in
set_option maxHeartbeats 4000000 in
theorem mm_e157_0 (E : mm_E) (cl : mm_F) (n : Nat) (a0 : Nat) (x1 : Int32) (h : mm_H) :
  mm_r157_0 E cl (n + 1) a0 x1 h =
  mm_r157_4 E cl n a0 x1 (mm_i 0) (mm_i 0) h := rfl
set_option maxRecDepth 20000 in
set_option maxHeartbeats 4000000 in
theorem mm_e157_4 (E : mm_E) (cl : mm_F) (n : Nat) (a0 : Nat) (x1 : Int32) (x2 : Int32) (x3 : Int32) (h : mm_H) :
  mm_r157_4 E cl (n + 1) a0 x1 x2 x3 h =
  mm_gR h a0 9 1 fun p_1 =>
  mm_rI E h p_1 (mm_i 2) fun v_2 =>
  (mm_br (v_2 ≤ x3) (
  some (.inl (some (.int x2)), h)) (
  mm_cI [] (cl 156 [.ref a0, .int x3] h) fun v_4 h_3 =>
    (mm_br (v_4 = x1) (
    mm_cI [] (cl 155 [.ref a0, .int x3] h_3) fun v_6 h_5 =>
      mm_r157_4 E cl n a0 x1 (x2 ||| ((mm_i 1) <<< (v_6 &&& 31))) (x3 + (mm_i 1)) h_5) (
    mm_r157_4 E cl n a0 x1 (x2 ||| (mm_i 0)) (x3 + (mm_i 1)) h_3)))) := rfl
-- Mod.customersOf
def mm_r158_0 (E : mm_E) (cl : mm_F) (n : Nat) (a0 : Nat) (x1 : Int32) (h : mm_H) : mm_R := mm_run E cl mm_m158 n 0 [some (.ref a0), some (.int x1), none, none] [] h
def mm_r158_4 (E : mm_E) (cl : mm_F) (n : Nat) (a0 : Nat) (x1 : Int32) (x2 : Int32) (x3 : Int32) (h : mm_H) : mm_R := mm_run E cl mm_m158 n 4 [some (.ref a0), some (.int x1), some (.int x2), some (.int x3)] [] h
set_option maxRecDepth 20000 in
set_option maxHeartbeats 4000000 in
theorem mm_e158_0 (E : mm_E) (cl : mm_F) (n : Nat) (a0 : Nat) (x1 : Int32) (h : mm_H) :
  mm_r158_0 E cl (n + 1) a0 x1 h =
  mm_r158_4 E cl n a0 x1 (mm_i 0) (mm_i 0) h := rfl
set_option maxRecDepth 20000 in
set_option maxHeartbeats 4000000 in
theorem mm_e158_4 (E : mm_E) (cl : mm_F) (n : Nat) (a0 : Nat) (x1 : Int32) (x2 : Int32) (x3 : Int32) (h : mm_H) :
  mm_r158_4 E cl (n + 1) a0 x1 x2 x3 h =
  mm_gR h a0 9 1 fun p_1 =>
  mm_rI E h p_1 (mm_i 2) fun v_2 =>
  (mm_br (v_2 ≤ x3) (
  some (.inl (some (.int x2)), h)) (
  mm_cI [] (cl 155 [.ref a0, .int x3] h) fun v_4 h_3 =>
    (mm_br (v_4 = x1) (
    mm_cI [] (cl 156 [.ref a0, .int x3] h_3) fun v_6 h_5 =>
      mm_r158_4 E cl n a0 x1 (x2 ||| ((mm_i 1) <<< (v_6 &&& 31))) (x3 + (mm_i 1)) h_5) (
    mm_r158_4 E cl n a0 x1 (x2 ||| (mm_i 0)) (x3 + (mm_i 1)) h_3)))) := rfl
-- Mod.isOf
def mm_r159_0 (E : mm_E) (cl : mm_F) (n : Nat) (x0 : Int32) (x1 : Int32) (h : mm_H) : mm_R := mm_run E cl mm_m159 n 0 [some (.int x0), some (.int x1)] [] h
set_option maxRecDepth 20000 in
set_option maxHeartbeats 4000000 in
theorem mm_e159_0 (E : mm_E) (cl : mm_F) (n : Nat) (x0 : Int32) (x1 : Int32) (h : mm_H) :
  mm_r159_0 E cl (n + 1) x0 x1 h =
  (mm_br (((x0 >>> (x1 &&& 31)) &&& (mm_i 1)) = (mm_i 1)) (
  (mm_bz (mm_i 1) (some (.inl (some (.int (mm_i 1))), h)))) (
  (mm_bz (mm_i 0) (some (.inl (some (.int (mm_i 0))), h))))) := rfl
-- Mod.bitsOf
def mm_r160_0 (E : mm_E) (cl : mm_F) (n : Nat) (x0 : Int32) (h : mm_H) : mm_R := mm_run E cl mm_m160 n 0 [some (.int x0), none, none] [] h
def mm_r160_4 (E : mm_E) (cl : mm_F) (n : Nat) (x0 : Int32) (x1 : Int32) (x2 : Int32) (h : mm_H) : mm_R := mm_run E cl mm_m160 n 4 [some (.int x0), some (.int x1), some (.int x2)] [] h
set_option maxRecDepth 20000 in
set_option maxHeartbeats 4000000 in
theorem mm_e160_0 (E : mm_E) (cl : mm_F) (n : Nat) (x0 : Int32) (h : mm_H) :
  mm_r160_0 E cl (n + 1) x0 h =
  mm_r160_4 E cl n x0 (mm_i 0) x0 h := rfl
set_option maxRecDepth 20000 in
set_option maxHeartbeats 4000000 in
theorem mm_e160_4 (E : mm_E) (cl : mm_F) (n : Nat) (x0 : Int32) (x1 : Int32) (x2 : Int32) (h : mm_H) :
  mm_r160_4 E cl (n + 1) x0 x1 x2 h =
  (mm_br (x2 = (mm_i 0)) (
  some (.inl (some (.int x1)), h)) (
  mm_r160_4 E cl n x0 (x1 + (mm_i 1)) (x2 &&& (x2 - (mm_i 1))) h)) := rfl
-- Mod.partOf
def mm_r161_0 (E : mm_E) (cl : mm_F) (n : Nat) (a0 : Nat) (x1 : Int32) (h : mm_H) : mm_R := mm_run E cl mm_m161 n 0 [some (.ref a0), some (.int x1), none, none, none, none, none] [] h
def mm_r161_6 (E : mm_E) (cl : mm_F) (n : Nat) (a0 : Nat) (x1 : Int32) (x2 : Int32) (x3 : Int32) (o4 : Option Value) (o5 : Option Value) (o6 : Option Value) (h : mm_H) : mm_R := mm_run E cl mm_m161 n 6 [some (.ref a0), some (.int x1), some (.int x2), some (.int x3), o4, o5, o6] [] h
def mm_r161_15 (E : mm_E) (cl : mm_F) (n : Nat) (a0 : Nat) (x1 : Int32) (x2 : Int32) (x3 : Int32) (x4 : Int32) (o5 : Option Value) (o6 : Option Value) (h : mm_H) : mm_R := mm_run E cl mm_m161 n 15 [some (.ref a0), some (.int x1), some (.int x2), some (.int x3), some (.int x4), o5, o6] [] h
set_option maxRecDepth 20000 in
set_option maxHeartbeats 4000000 in
theorem mm_e161_0 (E : mm_E) (cl : mm_F) (n : Nat) (a0 : Nat) (x1 : Int32) (h : mm_H) :
  mm_r161_0 E cl (n + 1) a0 x1 h =
  mm_r161_6 E cl n a0 x1 ((mm_i 1) <<< (x1 &&& 31)) (mm_i 1) none none none h := rfl
set_option maxRecDepth 20000 in
set_option maxHeartbeats 4000000 in
theorem mm_e161_6 (E : mm_E) (cl : mm_F) (n : Nat) (a0 : Nat) (x1 : Int32) (x2 : Int32) (x3 : Int32) (o4 : Option Value) (o5 : Option Value) (o6 : Option Value) (h : mm_H) :
  mm_r161_6 E cl (n + 1) a0 x1 x2 x3 o4 o5 o6 h =
  (mm_br (x3 = (mm_i 0)) (
  some (.inl (some (.int x2)), h)) (
  mm_r161_15 E cl n a0 x1 x2 (mm_i 0) (mm_i 0) o5 o6 h)) := rfl
set_option maxRecDepth 20000 in
set_option maxHeartbeats 4000000 in
theorem mm_e161_15 (E : mm_E) (cl : mm_F) (n : Nat) (a0 : Nat) (x1 : Int32) (x2 : Int32) (x3 : Int32) (x4 : Int32) (o5 : Option Value) (o6 : Option Value) (h : mm_H) :
  mm_r161_15 E cl (n + 1) a0 x1 x2 x3 x4 o5 o6 h =
  mm_rI E h a0 (mm_i 2) fun v_1 =>
  (mm_br (v_1 ≤ x4) (
  mm_r161_6 E cl n a0 x1 x2 x3 (some (.int x4)) o5 o6 h) (
  mm_rI E h a0 ((mm_i 159) + ((mm_i 2) * x4)) fun v_2 =>
    mm_rI E h a0 (((mm_i 159) + ((mm_i 2) * x4)) + (mm_i 1)) fun v_3 =>
    mm_cI [] (cl 159 [.int x2, .int v_2] h) fun v_5 h_4 =>
    mm_cI [] (cl 159 [.int x2, .int v_3] h_4) fun v_7 h_6 =>
    (mm_br (v_5 = v_7) (
    mm_r161_15 E cl n a0 x1 x2 x3 (x4 + (mm_i 1)) (some (.int v_2)) (some (.int v_3)) h_6) (
    mm_r161_15 E cl n a0 x1 (x2 ||| (((mm_i 1) <<< (v_2 &&& 31)) ||| ((mm_i 1) <<< (v_3 &&& 31)))) (mm_i 1) (x4 + (mm_i 1)) (some (.int v_2)) (some (.int v_3)) h_6)))) := rfl
-- Mod.flowOf
def mm_r162_0 (E : mm_E) (cl : mm_F) (n : Nat) (a0 : Nat) (x1 : Int32) (x2 : Int32) (h : mm_H) : mm_R := mm_run E cl mm_m162 n 0 [some (.ref a0), some (.int x1), some (.int x2), none, none] [] h
def mm_r162_10 (E : mm_E) (cl : mm_F) (n : Nat) (a0 : Nat) (x1 : Int32) (x2 : Int32) (x3 : Int32) (x4 : Int32) (h : mm_H) : mm_R := mm_run E cl mm_m162 n 10 [some (.ref a0), some (.int x1), some (.int x2), some (.int x3), some (.int x4)] [] h
set_option maxRecDepth 20000 in
set_option maxHeartbeats 4000000 in
theorem mm_e162_0 (E : mm_E) (cl : mm_F) (n : Nat) (a0 : Nat) (x1 : Int32) (x2 : Int32) (h : mm_H) :
  mm_r162_0 E cl (n + 1) a0 x1 x2 h =
  mm_cI [] (cl 152 [.ref a0, .int x1, .int x2] h) fun v_2 h_1 =>
  mm_r162_10 E cl n a0 x1 x2 v_2 (mm_i 0) h_1 := rfl
set_option maxRecDepth 20000 in
set_option maxHeartbeats 4000000 in
theorem mm_e162_10 (E : mm_E) (cl : mm_F) (n : Nat) (a0 : Nat) (x1 : Int32) (x2 : Int32) (x3 : Int32) (x4 : Int32) (h : mm_H) :
  mm_r162_10 E cl (n + 1) a0 x1 x2 x3 x4 h =
  mm_cI [] (cl 150 [.ref a0] h) fun v_2 h_1 =>
  (mm_br (v_2 ≤ x4) (
  some (.inl (some (.int x3)), h_1)) (
  mm_cI [] (cl 158 [.ref a0, .int x1] h_1) fun v_4 h_3 =>
    mm_cI [] (cl 159 [.int v_4, .int x4] h_3) fun v_6 h_5 =>
    (mm_br (v_6 = (mm_i 0)) (
    mm_r162_10 E cl n a0 x1 x2 (x3 + (mm_i 0)) (x4 + (mm_i 1)) h_5) (
    mm_cI [] (cl 162 [.ref a0, .int x4, .int x2] h_5) fun v_8 h_7 =>
      mm_r162_10 E cl n a0 x1 x2 (x3 + v_8) (x4 + (mm_i 1)) h_7)))) := rfl
-- Mod.longestOf
def mm_r163_0 (E : mm_E) (cl : mm_F) (n : Nat) (a0 : Nat) (x1 : Int32) (h : mm_H) : mm_R := mm_run E cl mm_m163 n 0 [some (.ref a0), some (.int x1), none, none] [] h
def mm_r163_9 (E : mm_E) (cl : mm_F) (n : Nat) (a0 : Nat) (x1 : Int32) (x2 : Int32) (x3 : Int32) (h : mm_H) : mm_R := mm_run E cl mm_m163 n 9 [some (.ref a0), some (.int x1), some (.int x2), some (.int x3)] [] h
set_option maxRecDepth 20000 in
set_option maxHeartbeats 4000000 in
theorem mm_e163_0 (E : mm_E) (cl : mm_F) (n : Nat) (a0 : Nat) (x1 : Int32) (h : mm_H) :
  mm_r163_0 E cl (n + 1) a0 x1 h =
  mm_cI [] (cl 152 [.ref a0, .int x1, .int (mm_i 2)] h) fun v_2 h_1 =>
  mm_r163_9 E cl n a0 x1 v_2 (mm_i 0) h_1 := rfl
set_option maxRecDepth 20000 in
set_option maxHeartbeats 4000000 in
theorem mm_e163_9 (E : mm_E) (cl : mm_F) (n : Nat) (a0 : Nat) (x1 : Int32) (x2 : Int32) (x3 : Int32) (h : mm_H) :
  mm_r163_9 E cl (n + 1) a0 x1 x2 x3 h =
  mm_cI [] (cl 150 [.ref a0] h) fun v_2 h_1 =>
  (mm_br (v_2 ≤ x3) (
  mm_cI [] (cl 152 [.ref a0, .int x1, .int (mm_i 0)] h_1) fun v_4 h_3 =>
    some (.inl (some (.int (x2 + v_4))), h_3)) (
  mm_cI [] (cl 157 [.ref a0, .int x1] h_1) fun v_6 h_5 =>
    mm_cI [] (cl 159 [.int v_6, .int x3] h_5) fun v_8 h_7 =>
    (mm_br (v_8 = (mm_i 0)) (
    mm_r163_9 E cl n a0 x1 x2 (x3 + (mm_i 1)) h_7) (
    mm_cI [] (cl 163 [.ref a0, .int x3] h_7) fun v_10 h_9 =>
      mm_r163_9 E cl n a0 x1 (mm_mx x2 v_10) (x3 + (mm_i 1)) h_9)))) := rfl
-- Mod.rootOf
def mm_r164_0 (E : mm_E) (cl : mm_F) (n : Nat) (y0 : Int64) (h : mm_H) : mm_R := mm_run E cl mm_m164 n 0 [some (.long y0), none, none, none, none, none, none, none] [] h
def mm_r164_7 (E : mm_E) (cl : mm_F) (n : Nat) (y0 : Int64) (y2 : Int64) (y4 : Int64) (o6 : Option Value) (o7 : Option Value) (h : mm_H) : mm_R := mm_run E cl mm_m164 n 7 [some (.long y0), none, some (.long y2), none, some (.long y4), none, o6, o7] [] h
set_option maxRecDepth 20000 in
set_option maxHeartbeats 4000000 in
theorem mm_e164_0 (E : mm_E) (cl : mm_F) (n : Nat) (y0 : Int64) (h : mm_H) :
  mm_r164_0 E cl (n + 1) y0 h =
  mm_r164_7 E cl n y0 (mm_j 0) (mm_j 100000) none none h := rfl
set_option maxRecDepth 20000 in
set_option maxHeartbeats 4000000 in
theorem mm_e164_7 (E : mm_E) (cl : mm_F) (n : Nat) (y0 : Int64) (y2 : Int64) (y4 : Int64) (o6 : Option Value) (o7 : Option Value) (h : mm_H) :
  mm_r164_7 E cl (n + 1) y0 y2 y4 o6 o7 h =
  (mm_br ((mm_i 0) ≤ (lg_cmp y2 y4)) (
  some (.inl (some (.int (Int64.toInt32 y2))), h)) (
  (mm_nzj (mm_j 2) (
    (mm_br ((lg_cmp (((mm_j 10000) * ((y2 + y4) / (mm_j 2))) * ((y2 + y4) / (mm_j 2))) y0) < (mm_i 0)) (
    mm_r164_7 E cl n y0 (((y2 + y4) / (mm_j 2)) + (mm_j 1)) y4 (some (.long ((y2 + y4) / (mm_j 2)))) none h) (
    mm_r164_7 E cl n y0 y2 ((y2 + y4) / (mm_j 2)) (some (.long ((y2 + y4) / (mm_j 2)))) none h)))))) := rfl
-- Mod.root
def mm_r165_0 (E : mm_E) (cl : mm_F) (n : Nat) (a0 : Nat) (x1 : Int32) (x2 : Int32) (h : mm_H) : mm_R := mm_run E cl mm_m165 n 0 [some (.ref a0), some (.int x1), some (.int x2)] [] h
set_option maxRecDepth 20000 in
set_option maxHeartbeats 4000000 in
theorem mm_e165_0 (E : mm_E) (cl : mm_F) (n : Nat) (a0 : Nat) (x1 : Int32) (x2 : Int32) (h : mm_H) :
  mm_r165_0 E cl (n + 1) a0 x1 x2 h =
  mm_gR h a0 9 1 fun p_1 =>
  mm_rI E h p_1 (mm_i 1) fun v_2 =>
  mm_gR h a0 9 1 fun p_3 =>
  mm_rI E h p_3 (mm_i 1) fun v_4 =>
  mm_cI [] (cl 162 [.ref a0, .int x1, .int (mm_i 4)] h) fun v_6 h_5 =>
  mm_cI [] (cl 164 [.long ((((Int32.toInt64 v_2) * (Int32.toInt64 v_4)) * (Int32.toInt64 v_6)) * (Int32.toInt64 x2))] h_5) fun v_8 h_7 =>
  some (.inl (some (.int v_8)), h_7) := rfl
-- Mod.boundOf
def mm_r166_0 (E : mm_E) (cl : mm_F) (n : Nat) (a0 : Nat) (x1 : Int32) (x2 : Int32) (h : mm_H) : mm_R := mm_run E cl mm_m166 n 0 [some (.ref a0), some (.int x1), some (.int x2)] [] h
set_option maxRecDepth 20000 in
set_option maxHeartbeats 4000000 in
theorem mm_e166_0 (E : mm_E) (cl : mm_F) (n : Nat) (a0 : Nat) (x1 : Int32) (x2 : Int32) (h : mm_H) :
  mm_r166_0 E cl (n + 1) a0 x1 x2 h =
  mm_cI [] (cl 162 [.ref a0, .int x1, .int (mm_i 3)] h) fun v_2 h_1 =>
  mm_cI [] (cl 165 [.ref a0, .int x1, .int x2] h_1) fun v_4 h_3 =>
  some (.inl (some (.int ((x2 * v_2) + v_4))), h_3) := rfl
-- Mod.bound
def mm_r167_0 (E : mm_E) (cl : mm_F) (n : Nat) (a0 : Nat) (x1 : Int32) (x2 : Int32) (x3 : Int32) (h : mm_H) : mm_R := mm_run E cl mm_m167 n 0 [some (.ref a0), some (.int x1), some (.int x2), some (.int x3)] [] h
def mm_r167_38 (E : mm_E) (cl : mm_F) (n : Nat) (a0 : Nat) (x1 : Int32) (x2 : Int32) (x3 : Int32) (b0 : Nat) (s1 : Int32) (h : mm_H) : mm_R := mm_run E cl mm_m167 n 38 [some (.ref a0), some (.int x1), some (.int x2), some (.int x3)] [.int s1, .ref b0] h
set_option maxRecDepth 20000 in
set_option maxHeartbeats 4000000 in
theorem mm_e167_0 (E : mm_E) (cl : mm_F) (n : Nat) (a0 : Nat) (x1 : Int32) (x2 : Int32) (x3 : Int32) (h : mm_H) :
  mm_r167_0 E cl (n + 1) a0 x1 x2 x3 h =
  mm_cI [] (cl 151 [.ref a0, .int x1] h) fun v_2 h_1 =>
  (mm_br (v_2 = (mm_i 0)) (
  mm_r167_38 E cl n a0 x1 x2 x3 a0 (mm_i 1) h_1) (
  mm_cI [] (cl 147 [.int x2, .int (mm_i 0), .int (mm_i 1)] h_1) fun v_4 h_3 =>
    (mm_br (v_4 = (mm_i 0)) (
    mm_r167_38 E cl n a0 x1 x2 x3 a0 (mm_i 1) h_3) (
    mm_cI [] (cl 147 [.int x3, .int (mm_i 0), .int (mm_i 999)] h_3) fun v_6 h_5 =>
      (mm_br (v_6 = (mm_i 0)) (
      mm_r167_38 E cl n a0 x1 x2 x3 a0 (mm_i 2) h_5) (
      mm_r167_38 E cl n a0 x1 x2 x3 a0 (mm_i 0) h_5)))))) := rfl
set_option maxRecDepth 20000 in
set_option maxHeartbeats 4000000 in
theorem mm_e167_38 (E : mm_E) (cl : mm_F) (n : Nat) (a0 : Nat) (x1 : Int32) (x2 : Int32) (x3 : Int32) (b0 : Nat) (s1 : Int32) (h : mm_H) :
  mm_r167_38 E cl (n + 1) a0 x1 x2 x3 b0 s1 h =
  mm_pF h b0 9 0 (.int s1) fun h_1 =>
  mm_gI h_1 a0 9 0 fun v_2 =>
  (mm_br (v_2 ≤ (mm_i 0)) (
  (mm_br (x2 = (mm_i 0)) (
    mm_cI [] (cl 165 [.ref a0, .int x1, .int x3] h_1) fun v_6 h_5 =>
      some (.inl (some (.int v_6)), h_5)) (
    mm_cI [] (cl 166 [.ref a0, .int x1, .int x3] h_1) fun v_4 h_3 =>
      some (.inl (some (.int v_4)), h_3)))) (
  some (.inl (some (.int (mm_i 0))), h_1))) := rfl
-- Mod.count
def mm_r168_0 (E : mm_E) (cl : mm_F) (n : Nat) (a0 : Nat) (x1 : Int32) (h : mm_H) : mm_R := mm_run E cl mm_m168 n 0 [some (.ref a0), some (.int x1), none, none] [] h
def mm_r168_83 (E : mm_E) (cl : mm_F) (n : Nat) (a0 : Nat) (x1 : Int32) (x2 : Int32) (x3 : Int32) (h : mm_H) : mm_R := mm_run E cl mm_m168 n 83 [some (.ref a0), some (.int x1), some (.int x2), some (.int x3)] [] h
set_option maxRecDepth 20000 in
set_option maxHeartbeats 4000000 in
theorem mm_e168_0 (E : mm_E) (cl : mm_F) (n : Nat) (a0 : Nat) (x1 : Int32) (h : mm_H) :
  mm_r168_0 E cl (n + 1) a0 x1 h =
  mm_pF h a0 9 0 (.int (mm_i 0)) fun h_1 =>
  (mm_br (x1 = (mm_i 0)) (
  mm_cI [] (cl 150 [.ref a0] h_1) fun v_15 h_14 =>
    some (.inl (some (.int v_15)), h_14)) (
  (mm_br (x1 = (mm_i 1)) (
  mm_gR h_1 a0 9 1 fun p_12 =>
    mm_rI E h_1 p_12 (mm_i 2) fun v_13 =>
    some (.inl (some (.int v_13)), h_1)) (
  (mm_br (x1 = (mm_i 2)) (
  mm_gR h_1 a0 9 1 fun p_10 =>
    mm_rI E h_1 p_10 (mm_i 1) fun v_11 =>
    some (.inl (some (.int v_11)), h_1)) (
  (mm_br (x1 = (mm_i 3)) (
  mm_cI [] (cl 150 [.ref a0] h_1) fun v_7 h_6 =>
    mm_gR h_6 a0 9 1 fun p_8 =>
    mm_rI E h_6 p_8 (mm_i 2) fun v_9 =>
    some (.inl (some (.int (v_7 - v_9))), h_6)) (
  (mm_br (x1 = (mm_i 4)) (
  mm_r168_83 E cl n a0 x1 (mm_i 0) (mm_i 0) h_1) (
  (mm_br (x1 = (mm_i 5)) (
  mm_gI h_1 a0 9 4 fun v_5 =>
    some (.inl (some (.int v_5)), h_1)) (
  (mm_br (x1 = (mm_i 6)) (
  mm_gI h_1 a0 9 26 fun v_4 =>
    some (.inl (some (.int v_4)), h_1)) (
  mm_cI [] (cl 146 [.ref a0, .int (mm_i 1)] h_1) fun v_3 h_2 =>
  some (.inl (some (.int v_3)), h_2))))))))))))))) := rfl
set_option maxRecDepth 20000 in
set_option maxHeartbeats 4000000 in
theorem mm_e168_83 (E : mm_E) (cl : mm_F) (n : Nat) (a0 : Nat) (x1 : Int32) (x2 : Int32) (x3 : Int32) (h : mm_H) :
  mm_r168_83 E cl (n + 1) a0 x1 x2 x3 h =
  mm_cI [] (cl 150 [.ref a0] h) fun v_2 h_1 =>
  (mm_br (v_2 ≤ x3) (
  some (.inl (some (.int x2)), h_1)) (
  mm_cI [] (cl 152 [.ref a0, .int x3, .int (mm_i 6)] h_1) fun v_4 h_3 =>
    (mm_br (v_4 = (mm_i (-1))) (
    mm_r168_83 E cl n a0 x1 (x2 + (mm_i 0)) (x3 + (mm_i 1)) h_3) (
    mm_r168_83 E cl n a0 x1 (x2 + (mm_i 1)) (x3 + (mm_i 1)) h_3)))) := rfl
-- Mod.letter
def mm_r169_0 (E : mm_E) (cl : mm_F) (n : Nat) (a0 : Nat) (x1 : Int32) (x2 : Int32) (h : mm_H) : mm_R := mm_run E cl mm_m169 n 0 [some (.ref a0), some (.int x1), some (.int x2)] [] h
set_option maxRecDepth 20000 in
set_option maxHeartbeats 4000000 in
theorem mm_e169_0 (E : mm_E) (cl : mm_F) (n : Nat) (a0 : Nat) (x1 : Int32) (x2 : Int32) (h : mm_H) :
  mm_r169_0 E cl (n + 1) a0 x1 x2 h =
  mm_pF h a0 9 0 (.int (mm_i 0)) fun h_1 =>
  mm_cI [] (cl 151 [.ref a0, .int x1] h_1) fun v_3 h_2 =>
  (mm_br (v_3 = (mm_i 0)) (
  mm_cI [] (cl 146 [.ref a0, .int (mm_i 1)] h_2) fun v_5 h_4 =>
    some (.inl (some (.int v_5)), h_4)) (
  mm_cI [] (cl 147 [.int x2, .int (mm_i 0), .int (mm_i 5)] h_2) fun v_7 h_6 =>
    (mm_br (v_7 = (mm_i 0)) (
    mm_cI [] (cl 146 [.ref a0, .int (mm_i 1)] h_6) fun v_9 h_8 =>
      some (.inl (some (.int v_9)), h_8)) (
    mm_gR h_6 a0 9 1 fun p_10 =>
      mm_rI E h_6 p_10 (((mm_i 87) + ((mm_i 6) * x1)) + x2) fun v_11 =>
      some (.inl (some (.int v_11)), h_6))))) := rfl
