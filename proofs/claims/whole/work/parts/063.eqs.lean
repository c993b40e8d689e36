/-! EQUATIONS of the runs, part 1 (by program: wip/whole/genpure.py) -/
-- Net.grow
def mm_r36_0 (E : mm_E) (cl : mm_F) (n : Nat) (a0 : Nat) (h : mm_H) : mm_R := mm_run E cl mm_m36 n 0 [some (.ref a0), none, none] [] h
def mm_r36_15 (E : mm_E) (cl : mm_F) (n : Nat) (a0 : Nat) (x1 : Int32) (x2 : Int32) (h : mm_H) : mm_R := mm_run E cl mm_m36 n 15 [some (.ref a0), some (.int x1), some (.int x2)] [] h
set_option maxRecDepth 20000 in
set_option maxHeartbeats 4000000 in
theorem mm_e36_0 (E : mm_E) (cl : mm_F) (n : Nat) (a0 : Nat) (h : mm_H) :
  mm_r36_0 E cl (n + 1) a0 h =
  mm_gI h a0 3 10 fun v_1 =>
  (mm_br (v_1 < (mm_i 12)) (
  mm_r36_15 E cl n a0 v_1 (mm_i 0) h) (
  some (.inl (some (.int (mm_i (-1)))), h))) := rfl
set_option maxRecDepth 20000 in
set_option maxHeartbeats 4000000 in
theorem mm_e36_15 (E : mm_E) (cl : mm_F) (n : Nat) (a0 : Nat) (x1 : Int32) (x2 : Int32) (h : mm_H) :
  mm_r36_15 E cl (n + 1) a0 x1 x2 h =
  (mm_br ((mm_i 7) ≤ x2) (
  mm_gI h a0 3 10 fun v_1 =>
    mm_pF h a0 3 10 (.int (v_1 + (mm_i 1))) fun h_2 =>
    some (.inl (some (.int x1)), h_2)) (
  (mm_br (x2 = (mm_i 5)) (
    mm_cV [] (cl 31 [.ref a0, .int x1, .int x2, .int (mm_i (-1))] h) fun h_3 =>
      mm_r36_15 E cl n a0 x1 (x2 + (mm_i 1)) h_3) (
    (mm_br (x2 = (mm_i 6)) (
      mm_cV [] (cl 31 [.ref a0, .int x1, .int x2, .int (mm_i (-1))] h) fun h_5 =>
        mm_r36_15 E cl n a0 x1 (x2 + (mm_i 1)) h_5) (
      mm_cV [] (cl 31 [.ref a0, .int x1, .int x2, .int (mm_i 0)] h) fun h_4 =>
        mm_r36_15 E cl n a0 x1 (x2 + (mm_i 1)) h_4)))))) := rfl
-- Net.shrink
def mm_r37_0 (E : mm_E) (cl : mm_F) (n : Nat) (a0 : Nat) (h : mm_H) : mm_R := mm_run E cl mm_m37 n 0 [some (.ref a0), none] [] h
def mm_r37_20 (E : mm_E) (cl : mm_F) (n : Nat) (a0 : Nat) (x1 : Int32) (h : mm_H) : mm_R := mm_run E cl mm_m37 n 20 [some (.ref a0), some (.int x1)] [] h
def mm_r37_52 (E : mm_E) (cl : mm_F) (n : Nat) (a0 : Nat) (x1 : Int32) (h : mm_H) : mm_R := mm_run E cl mm_m37 n 52 [some (.ref a0), some (.int x1)] [] h
def mm_r37_91 (E : mm_E) (cl : mm_F) (n : Nat) (a0 : Nat) (x1 : Int32) (h : mm_H) : mm_R := mm_run E cl mm_m37 n 91 [some (.ref a0), some (.int x1)] [] h
set_option maxRecDepth 20000 in
set_option maxHeartbeats 4000000 in
theorem mm_e37_0 (E : mm_E) (cl : mm_F) (n : Nat) (a0 : Nat) (h : mm_H) :
  mm_r37_0 E cl (n + 1) a0 h =
  mm_gI h a0 3 10 fun v_1 =>
  (mm_br (v_1 = (mm_i 0)) (
  some (.inl none, h)) (
  mm_gI h a0 3 10 fun v_2 =>
    mm_pF h a0 3 10 (.int (v_2 - (mm_i 1))) fun h_3 =>
    mm_r37_20 E cl n a0 (mm_i 0) h_3)) := rfl
set_option maxRecDepth 20000 in
set_option maxHeartbeats 4000000 in
theorem mm_e37_20 (E : mm_E) (cl : mm_F) (n : Nat) (a0 : Nat) (x1 : Int32) (h : mm_H) :
  mm_r37_20 E cl (n + 1) a0 x1 h =
  (mm_br ((mm_i 12) ≤ x1) (
  mm_r37_52 E cl n a0 (mm_i 0) h) (
  mm_gI h a0 3 10 fun v_1 =>
    mm_cV [] (cl 39 [.ref a0, .int x1, .int v_1] h) fun h_2 =>
    mm_gI h_2 a0 3 10 fun v_3 =>
    mm_cV [] (cl 39 [.ref a0, .int v_3, .int x1] h_2) fun h_4 =>
    mm_r37_20 E cl n a0 (x1 + (mm_i 1)) h_4)) := rfl
set_option maxRecDepth 20000 in
set_option maxHeartbeats 4000000 in
theorem mm_e37_52 (E : mm_E) (cl : mm_F) (n : Nat) (a0 : Nat) (x1 : Int32) (h : mm_H) :
  mm_r37_52 E cl (n + 1) a0 x1 h =
  (mm_br ((mm_i 6) ≤ x1) (
  mm_gR h a0 3 4 fun p_1 =>
    mm_gI h a0 3 10 fun v_2 =>
    mm_wI h p_1 v_2 (mm_i 0) fun h_3 =>
    mm_r37_91 E cl n a0 (mm_i 0) h_3) (
  mm_gR h a0 3 1 fun p_4 =>
    mm_gI h a0 3 10 fun v_5 =>
    mm_wI h p_4 ((v_5 * (mm_i 6)) + x1) (mm_i 0) fun h_6 =>
    mm_r37_52 E cl n a0 (x1 + (mm_i 1)) h_6)) := rfl
set_option maxRecDepth 20000 in
set_option maxHeartbeats 4000000 in
theorem mm_e37_91 (E : mm_E) (cl : mm_F) (n : Nat) (a0 : Nat) (x1 : Int32) (h : mm_H) :
  mm_r37_91 E cl (n + 1) a0 x1 h =
  (mm_br ((mm_i 40) ≤ x1) (
  some (.inl none, h)) (
  mm_gR h a0 3 5 fun p_1 =>
    mm_gI h a0 3 10 fun v_2 =>
    mm_wI h p_1 ((v_2 * (mm_i 40)) + x1) (mm_i 0) fun h_3 =>
    mm_r37_91 E cl n a0 (x1 + (mm_i 1)) h_3)) := rfl
-- Net.join
def mm_r38_0 (E : mm_E) (cl : mm_F) (n : Nat) (a0 : Nat) (x1 : Int32) (x2 : Int32) (h : mm_H) : mm_R := mm_run E cl mm_m38 n 0 [some (.ref a0), some (.int x1), some (.int x2)] [] h
set_option maxRecDepth 20000 in
set_option maxHeartbeats 4000000 in
theorem mm_e38_0 (E : mm_E) (cl : mm_F) (n : Nat) (a0 : Nat) (x1 : Int32) (x2 : Int32) (h : mm_H) :
  mm_r38_0 E cl (n + 1) a0 x1 x2 h =
  mm_gR h a0 3 2 fun p_1 =>
  mm_rI E h p_1 x2 fun v_2 =>
  mm_wI h p_1 x2 (v_2 ||| ((mm_i 1) <<< (x1 &&& 31))) fun h_3 =>
  mm_gR h_3 a0 3 3 fun p_4 =>
  mm_rI E h_3 p_4 x1 fun v_5 =>
  mm_wI h_3 p_4 x1 (v_5 ||| ((mm_i 1) <<< (x2 &&& 31))) fun h_6 =>
  some (.inl none, h_6) := rfl
-- Net.part
def mm_r39_0 (E : mm_E) (cl : mm_F) (n : Nat) (a0 : Nat) (x1 : Int32) (x2 : Int32) (h : mm_H) : mm_R := mm_run E cl mm_m39 n 0 [some (.ref a0), some (.int x1), some (.int x2)] [] h
set_option maxRecDepth 20000 in
set_option maxHeartbeats 4000000 in
theorem mm_e39_0 (E : mm_E) (cl : mm_F) (n : Nat) (a0 : Nat) (x1 : Int32) (x2 : Int32) (h : mm_H) :
  mm_r39_0 E cl (n + 1) a0 x1 x2 h =
  mm_gR h a0 3 2 fun p_1 =>
  mm_rI E h p_1 x2 fun v_2 =>
  mm_wI h p_1 x2 (v_2 &&& (((mm_i 1) <<< (x1 &&& 31)) ^^^ (mm_i (-1)))) fun h_3 =>
  mm_gR h_3 a0 3 3 fun p_4 =>
  mm_rI E h_3 p_4 x1 fun v_5 =>
  mm_wI h_3 p_4 x1 (v_5 &&& (((mm_i 1) <<< (x2 &&& 31)) ^^^ (mm_i (-1)))) fun h_6 =>
  some (.inl none, h_6) := rfl
-- Net.areInOnePart
def mm_r40_0 (E : mm_E) (cl : mm_F) (n : Nat) (a0 : Nat) (x1 : Int32) (x2 : Int32) (h : mm_H) : mm_R := mm_run E cl mm_m40 n 0 [some (.ref a0), some (.int x1), some (.int x2), none, none, none] [] h
def mm_r40_7 (E : mm_E) (cl : mm_F) (n : Nat) (a0 : Nat) (x1 : Int32) (x2 : Int32) (x3 : Int32) (x4 : Int32) (o5 : Option Value) (h : mm_H) : mm_R := mm_run E cl mm_m40 n 7 [some (.ref a0), some (.int x1), some (.int x2), some (.int x3), some (.int x4), o5] [] h
def mm_r40_19 (E : mm_E) (cl : mm_F) (n : Nat) (a0 : Nat) (x1 : Int32) (x2 : Int32) (x3 : Int32) (x4 : Int32) (x5 : Int32) (h : mm_H) : mm_R := mm_run E cl mm_m40 n 19 [some (.ref a0), some (.int x1), some (.int x2), some (.int x3), some (.int x4), some (.int x5)] [] h
set_option maxRecDepth 20000 in
set_option maxHeartbeats 4000000 in
theorem mm_e40_0 (E : mm_E) (cl : mm_F) (n : Nat) (a0 : Nat) (x1 : Int32) (x2 : Int32) (h : mm_H) :
  mm_r40_0 E cl (n + 1) a0 x1 x2 h =
  mm_r40_7 E cl n a0 x1 x2 ((mm_i 1) <<< (x1 &&& 31)) (mm_i 0) none h := rfl
set_option maxRecDepth 20000 in
set_option maxHeartbeats 4000000 in
theorem mm_e40_7 (E : mm_E) (cl : mm_F) (n : Nat) (a0 : Nat) (x1 : Int32) (x2 : Int32) (x3 : Int32) (x4 : Int32) (o5 : Option Value) (h : mm_H) :
  mm_r40_7 E cl (n + 1) a0 x1 x2 x3 x4 o5 h =
  mm_gI h a0 3 10 fun v_1 =>
  (mm_br (v_1 ≤ x4) (
  mm_cI [] (cl 61 [.int x3, .int x2] h) fun v_3 h_2 =>
    (mm_bz v_3 (some (.inl (some (.int v_3)), h_2)))) (
  mm_r40_19 E cl n a0 x1 x2 x3 x4 (mm_i 0) h)) := rfl
set_option maxRecDepth 20000 in
set_option maxHeartbeats 4000000 in
theorem mm_e40_19 (E : mm_E) (cl : mm_F) (n : Nat) (a0 : Nat) (x1 : Int32) (x2 : Int32) (x3 : Int32) (x4 : Int32) (x5 : Int32) (h : mm_H) :
  mm_r40_19 E cl (n + 1) a0 x1 x2 x3 x4 x5 h =
  mm_gI h a0 3 10 fun v_1 =>
  (mm_br (v_1 ≤ x5) (
  mm_r40_7 E cl n a0 x1 x2 x3 (x4 + (mm_i 1)) (some (.int x5)) h) (
  mm_cI [] (cl 61 [.int x3, .int x5] h) fun v_3 h_2 =>
    (mm_br (v_3 = (mm_i 0)) (
    mm_r40_19 E cl n a0 x1 x2 (x3 ||| (mm_i 0)) x4 (x5 + (mm_i 1)) h_2) (
    mm_gR h_2 a0 3 2 fun p_4 =>
      mm_rI E h_2 p_4 x5 fun v_5 =>
      mm_gR h_2 a0 3 3 fun p_6 =>
      mm_rI E h_2 p_6 x5 fun v_7 =>
      mm_r40_19 E cl n a0 x1 x2 (x3 ||| (v_5 ||| v_7)) x4 (x5 + (mm_i 1)) h_2)))) := rfl
-- Net.supplyCount
def mm_r41_0 (E : mm_E) (cl : mm_F) (n : Nat) (a0 : Nat) (h : mm_H) : mm_R := mm_run E cl mm_m41 n 0 [some (.ref a0), none, none] [] h
def mm_r41_4 (E : mm_E) (cl : mm_F) (n : Nat) (a0 : Nat) (x1 : Int32) (x2 : Int32) (h : mm_H) : mm_R := mm_run E cl mm_m41 n 4 [some (.ref a0), some (.int x1), some (.int x2)] [] h
set_option maxRecDepth 20000 in
set_option maxHeartbeats 4000000 in
theorem mm_e41_0 (E : mm_E) (cl : mm_F) (n : Nat) (a0 : Nat) (h : mm_H) :
  mm_r41_0 E cl (n + 1) a0 h =
  mm_r41_4 E cl n a0 (mm_i 0) (mm_i 0) h := rfl
set_option maxRecDepth 20000 in
set_option maxHeartbeats 4000000 in
theorem mm_e41_4 (E : mm_E) (cl : mm_F) (n : Nat) (a0 : Nat) (x1 : Int32) (x2 : Int32) (h : mm_H) :
  mm_r41_4 E cl (n + 1) a0 x1 x2 h =
  mm_gI h a0 3 10 fun v_1 =>
  (mm_br (v_1 ≤ x2) (
  some (.inl (some (.int x1)), h)) (
  mm_gR h a0 3 2 fun p_2 =>
    mm_rI E h p_2 x2 fun v_3 =>
    mm_cI [] (cl 283 [.int v_3] h) fun v_5 h_4 =>
    mm_r41_4 E cl n a0 (x1 + v_5) (x2 + (mm_i 1)) h_4)) := rfl
-- Net.pinCount
def mm_r42_0 (E : mm_E) (cl : mm_F) (n : Nat) (a0 : Nat) (h : mm_H) : mm_R := mm_run E cl mm_m42 n 0 [some (.ref a0), none, none] [] h
def mm_r42_4 (E : mm_E) (cl : mm_F) (n : Nat) (a0 : Nat) (x1 : Int32) (x2 : Int32) (h : mm_H) : mm_R := mm_run E cl mm_m42 n 4 [some (.ref a0), some (.int x1), some (.int x2)] [] h
set_option maxRecDepth 20000 in
set_option maxHeartbeats 4000000 in
theorem mm_e42_0 (E : mm_E) (cl : mm_F) (n : Nat) (a0 : Nat) (h : mm_H) :
  mm_r42_0 E cl (n + 1) a0 h =
  mm_r42_4 E cl n a0 (mm_i 0) (mm_i 0) h := rfl
set_option maxRecDepth 20000 in
set_option maxHeartbeats 4000000 in
theorem mm_e42_4 (E : mm_E) (cl : mm_F) (n : Nat) (a0 : Nat) (x1 : Int32) (x2 : Int32) (h : mm_H) :
  mm_r42_4 E cl (n + 1) a0 x1 x2 h =
  mm_gI h a0 3 10 fun v_1 =>
  (mm_br (v_1 ≤ x2) (
  some (.inl (some (.int x1)), h)) (
  mm_cI [] (cl 30 [.ref a0, .int x2, .int (mm_i 6)] h) fun v_3 h_2 =>
    (mm_br (v_3 = (mm_i (-1))) (
    mm_r42_4 E cl n a0 (x1 + (mm_i 0)) (x2 + (mm_i 1)) h_2) (
    mm_r42_4 E cl n a0 (x1 + (mm_i 1)) (x2 + (mm_i 1)) h_2)))) := rfl
-- Net.settle
def mm_r43_0 (E : mm_E) (cl : mm_F) (n : Nat) (a0 : Nat) (h : mm_H) : mm_R := mm_run E cl mm_m43 n 0 [some (.ref a0), none] [] h
def mm_r43_16 (E : mm_E) (cl : mm_F) (n : Nat) (a0 : Nat) (x1 : Int32) (h : mm_H) : mm_R := mm_run E cl mm_m43 n 16 [some (.ref a0), some (.int x1)] [] h
def mm_r43_47 (E : mm_E) (cl : mm_F) (n : Nat) (a0 : Nat) (x1 : Int32) (h : mm_H) : mm_R := mm_run E cl mm_m43 n 47 [some (.ref a0), some (.int x1)] [] h
set_option maxRecDepth 20000 in
set_option maxHeartbeats 4000000 in
theorem mm_e43_0 (E : mm_E) (cl : mm_F) (n : Nat) (a0 : Nat) (h : mm_H) :
  mm_r43_0 E cl (n + 1) a0 h =
  mm_gI h a0 3 12 fun v_1 =>
  mm_pF h a0 3 12 (.int (v_1 + (mm_i 1))) fun h_2 =>
  mm_cV [] (cl 44 [.ref a0] h_2) fun h_3 =>
  mm_r43_16 E cl n a0 (mm_i 0) h_3 := rfl
set_option maxRecDepth 20000 in
set_option maxHeartbeats 4000000 in
theorem mm_e43_16 (E : mm_E) (cl : mm_F) (n : Nat) (a0 : Nat) (x1 : Int32) (h : mm_H) :
  mm_r43_16 E cl (n + 1) a0 x1 h =
  mm_gI h a0 3 10 fun v_1 =>
  (mm_br (v_1 ≤ x1) (
  mm_gI h a0 3 10 fun v_2 =>
    mm_r43_47 E cl n a0 (v_2 - (mm_i 1)) h) (
  mm_gR h a0 3 6 fun p_3 =>
    mm_rI E h p_3 x1 fun v_4 =>
    mm_cV [] (cl 45 [.ref a0, .int v_4] h) fun h_5 =>
    mm_r43_16 E cl n a0 (x1 + (mm_i 1)) h_5)) := rfl
set_option maxRecDepth 20000 in
set_option maxHeartbeats 4000000 in
theorem mm_e43_47 (E : mm_E) (cl : mm_F) (n : Nat) (a0 : Nat) (x1 : Int32) (h : mm_H) :
  mm_r43_47 E cl (n + 1) a0 x1 h =
  (mm_br (x1 < (mm_i 0)) (
  some (.inl none, h)) (
  mm_gR h a0 3 6 fun p_1 =>
    mm_rI E h p_1 x1 fun v_2 =>
    mm_cV [] (cl 46 [.ref a0, .int v_2] h) fun h_3 =>
    mm_r43_47 E cl n a0 (x1 + (mm_i (-1))) h_3)) := rfl
-- Net.sortSuppliersAhead
def mm_r44_0 (E : mm_E) (cl : mm_F) (n : Nat) (a0 : Nat) (h : mm_H) : mm_R := mm_run E cl mm_m44 n 0 [some (.ref a0), none, none, none, none] [] h
def mm_r44_6 (E : mm_E) (cl : mm_F) (n : Nat) (a0 : Nat) (x1 : Int32) (x2 : Int32) (x3 : Int32) (o4 : Option Value) (h : mm_H) : mm_R := mm_run E cl mm_m44 n 6 [some (.ref a0), some (.int x1), some (.int x2), some (.int x3), o4] [] h
def mm_r44_25 (E : mm_E) (cl : mm_F) (n : Nat) (a0 : Nat) (x1 : Int32) (x2 : Int32) (x3 : Int32) (x4 : Int32) (h : mm_H) : mm_R := mm_run E cl mm_m44 n 25 [some (.ref a0), some (.int x1), some (.int x2), some (.int x3), some (.int x4)] [] h
set_option maxRecDepth 20000 in
set_option maxHeartbeats 4000000 in
theorem mm_e44_0 (E : mm_E) (cl : mm_F) (n : Nat) (a0 : Nat) (h : mm_H) :
  mm_r44_0 E cl (n + 1) a0 h =
  mm_r44_6 E cl n a0 (mm_i 0) (mm_i 0) (mm_i 0) none h := rfl
set_option maxRecDepth 20000 in
set_option maxHeartbeats 4000000 in
theorem mm_e44_6 (E : mm_E) (cl : mm_F) (n : Nat) (a0 : Nat) (x1 : Int32) (x2 : Int32) (x3 : Int32) (o4 : Option Value) (h : mm_H) :
  mm_r44_6 E cl (n + 1) a0 x1 x2 x3 o4 h =
  mm_gI h a0 3 10 fun v_1 =>
  (mm_br (v_1 ≤ x3) (
  some (.inl none, h)) (
  mm_gI h a0 3 10 fun v_2 =>
    (mm_br (v_2 ≤ x2) (
    some (.inl none, h)) (
    mm_r44_25 E cl n a0 x1 x2 x3 (mm_i 0) h)))) := rfl
set_option maxRecDepth 20000 in
set_option maxHeartbeats 4000000 in
theorem mm_e44_25 (E : mm_E) (cl : mm_F) (n : Nat) (a0 : Nat) (x1 : Int32) (x2 : Int32) (x3 : Int32) (x4 : Int32) (h : mm_H) :
  mm_r44_25 E cl (n + 1) a0 x1 x2 x3 x4 h =
  mm_gI h a0 3 10 fun v_1 =>
  (mm_br (v_1 ≤ x4) (
  mm_r44_6 E cl n a0 x1 x2 (x3 + (mm_i 1)) (some (.int x4)) h) (
  mm_cI [] (cl 61 [.int x1, .int x4] h) fun v_3 h_2 =>
    (mm_br (v_3 = (mm_i 0)) (
    mm_gR h_2 a0 3 2 fun p_4 =>
      mm_rI E h_2 p_4 x4 fun v_5 =>
      (mm_br ((v_5 &&& (x1 ^^^ (mm_i (-1)))) = (mm_i 0)) (
      mm_gR h_2 a0 3 6 fun p_6 =>
        mm_wI h_2 p_6 x2 x4 fun h_7 =>
        mm_r44_25 E cl n a0 (x1 ||| ((mm_i 1) <<< (x4 &&& 31))) (x2 + (mm_i 1)) x3 (x4 + (mm_i 1)) h_7) (
      mm_r44_25 E cl n a0 x1 x2 x3 (x4 + (mm_i 1)) h_2))) (
    mm_r44_25 E cl n a0 x1 x2 x3 (x4 + (mm_i 1)) h_2)))) := rfl
-- Net.settleLongest
def mm_r45_0 (E : mm_E) (cl : mm_F) (n : Nat) (a0 : Nat) (x1 : Int32) (h : mm_H) : mm_R := mm_run E cl mm_m45 n 0 [some (.ref a0), some (.int x1), none, none] [] h
def mm_r45_9 (E : mm_E) (cl : mm_F) (n : Nat) (a0 : Nat) (x1 : Int32) (x2 : Int32) (x3 : Int32) (h : mm_H) : mm_R := mm_run E cl mm_m45 n 9 [some (.ref a0), some (.int x1), some (.int x2), some (.int x3)] [] h
set_option maxRecDepth 20000 in
set_option maxHeartbeats 4000000 in
theorem mm_e45_0 (E : mm_E) (cl : mm_F) (n : Nat) (a0 : Nat) (x1 : Int32) (h : mm_H) :
  mm_r45_0 E cl (n + 1) a0 x1 h =
  mm_cI [] (cl 30 [.ref a0, .int x1, .int (mm_i 2)] h) fun v_2 h_1 =>
  mm_r45_9 E cl n a0 x1 v_2 (mm_i 0) h_1 := rfl
set_option maxRecDepth 20000 in
set_option maxHeartbeats 4000000 in
theorem mm_e45_9 (E : mm_E) (cl : mm_F) (n : Nat) (a0 : Nat) (x1 : Int32) (x2 : Int32) (x3 : Int32) (h : mm_H) :
  mm_r45_9 E cl (n + 1) a0 x1 x2 x3 h =
  mm_gI h a0 3 10 fun v_1 =>
  (mm_br (v_1 ≤ x3) (
  mm_gR h a0 3 9 fun p_2 =>
    mm_cI [] (cl 30 [.ref a0, .int x1, .int (mm_i 0)] h) fun v_4 h_3 =>
    mm_wI h_3 p_2 x1 (x2 + v_4) fun h_5 =>
    some (.inl none, h_5)) (
  mm_cI [] (cl 32 [.ref a0, .int x3, .int x1] h) fun v_7 h_6 =>
    (mm_br (v_7 = (mm_i 0)) (
    mm_r45_9 E cl n a0 x1 x2 (x3 + (mm_i 1)) h_6) (
    mm_gR h_6 a0 3 9 fun p_8 =>
      mm_rI E h_6 p_8 x3 fun v_9 =>
      mm_r45_9 E cl n a0 x1 (mm_mx x2 v_9) (x3 + (mm_i 1)) h_6)))) := rfl
-- Net.settleFlow
def mm_r46_0 (E : mm_E) (cl : mm_F) (n : Nat) (a0 : Nat) (x1 : Int32) (h : mm_H) : mm_R := mm_run E cl mm_m46 n 0 [some (.ref a0), some (.int x1), none] [] h
def mm_r46_26 (E : mm_E) (cl : mm_F) (n : Nat) (a0 : Nat) (x1 : Int32) (x2 : Int32) (h : mm_H) : mm_R := mm_run E cl mm_m46 n 26 [some (.ref a0), some (.int x1), some (.int x2)] [] h
set_option maxRecDepth 20000 in
set_option maxHeartbeats 4000000 in
theorem mm_e46_0 (E : mm_E) (cl : mm_F) (n : Nat) (a0 : Nat) (x1 : Int32) (h : mm_H) :
  mm_r46_0 E cl (n + 1) a0 x1 h =
  mm_gR h a0 3 7 fun p_1 =>
  mm_cI [] (cl 30 [.ref a0, .int x1, .int (mm_i 3)] h) fun v_3 h_2 =>
  mm_wI h_2 p_1 x1 v_3 fun h_4 =>
  mm_gR h_4 a0 3 8 fun p_5 =>
  mm_cI [] (cl 30 [.ref a0, .int x1, .int (mm_i 4)] h_4) fun v_7 h_6 =>
  mm_wI h_6 p_5 x1 v_7 fun h_8 =>
  mm_r46_26 E cl n a0 x1 (mm_i 0) h_8 := rfl
set_option maxRecDepth 20000 in
set_option maxHeartbeats 4000000 in
theorem mm_e46_26 (E : mm_E) (cl : mm_F) (n : Nat) (a0 : Nat) (x1 : Int32) (x2 : Int32) (h : mm_H) :
  mm_r46_26 E cl (n + 1) a0 x1 x2 h =
  mm_gI h a0 3 10 fun v_1 =>
  (mm_br (v_1 ≤ x2) (
  some (.inl none, h)) (
  mm_cI [] (cl 32 [.ref a0, .int x1, .int x2] h) fun v_3 h_2 =>
    (mm_br (v_3 = (mm_i 0)) (
    mm_r46_26 E cl n a0 x1 (x2 + (mm_i 1)) h_2) (
    mm_gR h_2 a0 3 7 fun p_4 =>
      mm_rI E h_2 p_4 x1 fun v_5 =>
      mm_gR h_2 a0 3 7 fun p_6 =>
      mm_rI E h_2 p_6 x2 fun v_7 =>
      mm_wI h_2 p_4 x1 (v_5 + v_7) fun h_8 =>
      mm_gR h_8 a0 3 8 fun p_9 =>
      mm_rI E h_8 p_9 x1 fun v_10 =>
      mm_gR h_8 a0 3 8 fun p_11 =>
      mm_rI E h_8 p_11 x2 fun v_12 =>
      mm_wI h_8 p_9 x1 (v_10 + v_12) fun h_13 =>
      mm_r46_26 E cl n a0 x1 (x2 + (mm_i 1)) h_13)))) := rfl
-- Net.rootBy
def mm_r47_0 (E : mm_E) (cl : mm_F) (n : Nat) (a0 : Nat) (x1 : Int32) (x2 : Int32) (h : mm_H) : mm_R := mm_run E cl mm_m47 n 0 [some (.ref a0), some (.int x1), some (.int x2)] [] h
set_option maxRecDepth 20000 in
set_option maxHeartbeats 4000000 in
theorem mm_e47_0 (E : mm_E) (cl : mm_F) (n : Nat) (a0 : Nat) (x1 : Int32) (x2 : Int32) (h : mm_H) :
  mm_r47_0 E cl (n + 1) a0 x1 x2 h =
  mm_cI [] (cl 48 [.ref a0, .int (mm_i 0), .int x1, .int x2] h) fun v_2 h_1 =>
  some (.inl (some (.int v_2)), h_1) := rfl
-- Net.rootFrom
def mm_r48_0 (E : mm_E) (cl : mm_F) (n : Nat) (a0 : Nat) (x1 : Int32) (x2 : Int32) (x3 : Int32) (h : mm_H) : mm_R := mm_run E cl mm_m48 n 0 [some (.ref a0), some (.int x1), some (.int x2), some (.int x3), none, none, none, none, none, none] [] h
def mm_r48_33 (E : mm_E) (cl : mm_F) (n : Nat) (a0 : Nat) (x1 : Int32) (x2 : Int32) (x3 : Int32) (y4 : Int64) (x6 : Int32) (x7 : Int32) (x8 : Int32) (o9 : Option Value) (h : mm_H) : mm_R := mm_run E cl mm_m48 n 33 [some (.ref a0), some (.int x1), some (.int x2), some (.int x3), some (.long y4), none, some (.int x6), some (.int x7), some (.int x8), o9] [] h
def mm_r48_81 (E : mm_E) (cl : mm_F) (n : Nat) (a0 : Nat) (x1 : Int32) (x2 : Int32) (x3 : Int32) (y4 : Int64) (x6 : Int32) (x7 : Int32) (x8 : Int32) (o9 : Option Value) (h : mm_H) : mm_R := mm_run E cl mm_m48 n 81 [some (.ref a0), some (.int x1), some (.int x2), some (.int x3), some (.long y4), none, some (.int x6), some (.int x7), some (.int x8), o9] [] h
set_option maxRecDepth 20000 in
set_option maxHeartbeats 4000000 in
theorem mm_e48_0 (E : mm_E) (cl : mm_F) (n : Nat) (a0 : Nat) (x1 : Int32) (x2 : Int32) (x3 : Int32) (h : mm_H) :
  mm_r48_0 E cl (n + 1) a0 x1 x2 x3 h =
  mm_gI h a0 3 11 fun v_1 =>
  mm_gI h a0 3 11 fun v_2 =>
  mm_gR h a0 3 8 fun p_3 =>
  mm_rI E h p_3 x2 fun v_4 =>
  mm_r48_33 E cl n a0 x1 x2 x3 ((((Int32.toInt64 v_1) * (Int32.toInt64 v_2)) * (Int32.toInt64 v_4)) * (Int32.toInt64 x3)) x1 x1 (mm_i 0) none h := rfl
set_option maxRecDepth 20000 in
set_option maxHeartbeats 4000000 in
theorem mm_e48_33 (E : mm_E) (cl : mm_F) (n : Nat) (a0 : Nat) (x1 : Int32) (x2 : Int32) (x3 : Int32) (y4 : Int64) (x6 : Int32) (x7 : Int32) (x8 : Int32) (o9 : Option Value) (h : mm_H) :
  mm_r48_33 E cl (n + 1) a0 x1 x2 x3 y4 x6 x7 x8 o9 h =
  (mm_br ((mm_i 20) ≤ x8) (
  mm_r48_81 E cl n a0 x1 x2 x3 y4 x6 x7 (mm_i 0) o9 h) (
  (mm_br ((mm_i 0) ≤ (lg_cmp (((mm_j 10000) * (Int32.toInt64 x7)) * (Int32.toInt64 x7)) y4)) (
    mm_r48_81 E cl n a0 x1 x2 x3 y4 x6 x7 (mm_i 0) o9 h) (
    mm_r48_33 E cl n a0 x1 x2 x3 y4 (x7 + (mm_i 1)) (x7 + ((mm_i 1) <<< (x8 &&& 31))) (x8 + (mm_i 1)) o9 h)))) := rfl
set_option maxRecDepth 20000 in
set_option maxHeartbeats 4000000 in
theorem mm_e48_81 (E : mm_E) (cl : mm_F) (n : Nat) (a0 : Nat) (x1 : Int32) (x2 : Int32) (x3 : Int32) (y4 : Int64) (x6 : Int32) (x7 : Int32) (x8 : Int32) (o9 : Option Value) (h : mm_H) :
  mm_r48_81 E cl (n + 1) a0 x1 x2 x3 y4 x6 x7 x8 o9 h =
  (mm_br ((mm_i 20) ≤ x8) (
  some (.inl (some (.int x6)), h)) (
  (mm_br (x7 ≤ x6) (
    some (.inl (some (.int x6)), h)) (
    (mm_nz (mm_i 2) (
      (mm_br ((lg_cmp (((mm_j 10000) * (Int32.toInt64 ((x6 + x7) / (mm_i 2)))) * (Int32.toInt64 ((x6 + x7) / (mm_i 2)))) y4) < (mm_i 0)) (
      mm_r48_81 E cl n a0 x1 x2 x3 y4 (((x6 + x7) / (mm_i 2)) + (mm_i 1)) x7 (x8 + (mm_i 1)) (some (.int ((x6 + x7) / (mm_i 2)))) h) (
      mm_r48_81 E cl n a0 x1 x2 x3 y4 x6 ((x6 + x7) / (mm_i 2)) (x8 + (mm_i 1)) (some (.int ((x6 + x7) / (mm_i 2)))) h)))))))) := rfl
-- Net.boundBy
def mm_r49_0 (E : mm_E) (cl : mm_F) (n : Nat) (a0 : Nat) (x1 : Int32) (x2 : Int32) (h : mm_H) : mm_R := mm_run E cl mm_m49 n 0 [some (.ref a0), some (.int x1), some (.int x2)] [] h
set_option maxRecDepth 20000 in
set_option maxHeartbeats 4000000 in
theorem mm_e49_0 (E : mm_E) (cl : mm_F) (n : Nat) (a0 : Nat) (x1 : Int32) (x2 : Int32) (h : mm_H) :
  mm_r49_0 E cl (n + 1) a0 x1 x2 h =
  mm_gR h a0 3 7 fun p_1 =>
  mm_rI E h p_1 x1 fun v_2 =>
  mm_cI [] (cl 47 [.ref a0, .int x1, .int x2] h) fun v_4 h_3 =>
  some (.inl (some (.int ((x2 * v_2) + v_4))), h_3) := rfl
-- Net.waitOf
def mm_r50_0 (E : mm_E) (cl : mm_F) (n : Nat) (a0 : Nat) (x1 : Int32) (h : mm_H) : mm_R := mm_run E cl mm_m50 n 0 [some (.ref a0), some (.int x1), none, none] [] h
def mm_r50_9 (E : mm_E) (cl : mm_F) (n : Nat) (a0 : Nat) (x1 : Int32) (x2 : Int32) (x3 : Int32) (h : mm_H) : mm_R := mm_run E cl mm_m50 n 9 [some (.ref a0), some (.int x1), some (.int x2), some (.int x3)] [] h
set_option maxRecDepth 20000 in
set_option maxHeartbeats 4000000 in
theorem mm_e50_0 (E : mm_E) (cl : mm_F) (n : Nat) (a0 : Nat) (x1 : Int32) (h : mm_H) :
  mm_r50_0 E cl (n + 1) a0 x1 h =
  mm_cI [] (cl 30 [.ref a0, .int x1, .int (mm_i 2)] h) fun v_2 h_1 =>
  mm_r50_9 E cl n a0 x1 v_2 (mm_i 0) h_1 := rfl
set_option maxRecDepth 20000 in
set_option maxHeartbeats 4000000 in
theorem mm_e50_9 (E : mm_E) (cl : mm_F) (n : Nat) (a0 : Nat) (x1 : Int32) (x2 : Int32) (x3 : Int32) (h : mm_H) :
  mm_r50_9 E cl (n + 1) a0 x1 x2 x3 h =
  mm_gI h a0 3 10 fun v_1 =>
  (mm_br (v_1 ≤ x3) (
  some (.inl (some (.int x2)), h)) (
  mm_cI [] (cl 32 [.ref a0, .int x3, .int x1] h) fun v_3 h_2 =>
    (mm_br (v_3 = (mm_i 0)) (
    mm_r50_9 E cl n a0 x1 x2 (x3 + (mm_i 1)) h_2) (
    mm_gR h_2 a0 3 4 fun p_4 =>
      mm_rI E h_2 p_4 x3 fun v_5 =>
      mm_r50_9 E cl n a0 x1 (mm_mx x2 v_5) (x3 + (mm_i 1)) h_2)))) := rfl
-- Net.netOf
def mm_r51_0 (E : mm_E) (cl : mm_F) (n : Nat) (a0 : Nat) (x1 : Int32) (h : mm_H) : mm_R := mm_run E cl mm_m51 n 0 [some (.ref a0), some (.int x1)] [] h
set_option maxRecDepth 20000 in
set_option maxHeartbeats 4000000 in
theorem mm_e51_0 (E : mm_E) (cl : mm_F) (n : Nat) (a0 : Nat) (x1 : Int32) (h : mm_H) :
  mm_r51_0 E cl (n + 1) a0 x1 h =
  mm_cI [] (cl 50 [.ref a0, .int x1] h) fun v_2 h_1 =>
  mm_cI [] (cl 30 [.ref a0, .int x1, .int (mm_i 0)] h_1) fun v_4 h_3 =>
  mm_gR h_3 a0 3 4 fun p_5 =>
  mm_rI E h_3 p_5 x1 fun v_6 =>
  some (.inl (some (.int ((v_2 + v_4) - v_6))), h_3) := rfl
-- Net.byPlan
def mm_r52_0 (E : mm_E) (cl : mm_F) (n : Nat) (a0 : Nat) (x1 : Int32) (x2 : Int32) (h : mm_H) : mm_R := mm_run E cl mm_m52 n 0 [some (.ref a0), some (.int x1), some (.int x2), none] [] h
set_option maxRecDepth 20000 in
set_option maxHeartbeats 4000000 in
theorem mm_e52_0 (E : mm_E) (cl : mm_F) (n : Nat) (a0 : Nat) (x1 : Int32) (x2 : Int32) (h : mm_H) :
  mm_r52_0 E cl (n + 1) a0 x1 x2 h =
  mm_cI [] (cl 51 [.ref a0, .int x1] h) fun v_2 h_1 =>
  (mm_br (x2 = (mm_i 0)) (
  mm_gR h_1 a0 3 4 fun p_13 =>
    mm_rI E h_1 p_13 x1 fun v_14 =>
    some (.inl (some (.int v_14)), h_1)) (
  (mm_br (x2 = (mm_i 1)) (
  mm_cI [] (cl 50 [.ref a0, .int x1] h_1) fun v_12 h_11 =>
    some (.inl (some (.int v_12)), h_11)) (
  (mm_br (x2 = (mm_i 2)) (
  some (.inl (some (.int v_2)), h_1)) (
  (mm_br (x2 = (mm_i 3)) (
  (mm_br ((mm_i 0) ≤ v_2) (
    mm_cI [] (cl 47 [.ref a0, .int x1, .int v_2] h_1) fun v_10 h_9 =>
      some (.inl (some (.int v_10)), h_9)) (
    some (.inl (some (.int (mm_i (-1)))), h_1)))) (
  (mm_br (x2 = (mm_i 4)) (
  (mm_br ((mm_i 0) ≤ v_2) (
    mm_cI [] (cl 49 [.ref a0, .int x1, .int v_2] h_1) fun v_8 h_7 =>
      some (.inl (some (.int v_8)), h_7)) (
    some (.inl (some (.int (mm_i (-1)))), h_1)))) (
  (mm_br ((mm_i 0) ≤ v_2) (
  mm_cI [] (cl 30 [.ref a0, .int x1, .int (mm_i 1)] h_1) fun v_4 h_3 =>
    mm_cI [] (cl 47 [.ref a0, .int x1, .int v_2] h_3) fun v_6 h_5 =>
    some (.inl (some (.int (v_4 * v_6))), h_5)) (
  some (.inl (some (.int (mm_i (-1)))), h_1))))))))))))) := rfl
-- Net.firstNotHolding
def mm_r53_0 (E : mm_E) (cl : mm_F) (n : Nat) (a0 : Nat) (h : mm_H) : mm_R := mm_run E cl mm_m53 n 0 [some (.ref a0), none, none, none] [] h
def mm_r53_2 (E : mm_E) (cl : mm_F) (n : Nat) (a0 : Nat) (x1 : Int32) (o2 : Option Value) (o3 : Option Value) (h : mm_H) : mm_R := mm_run E cl mm_m53 n 2 [some (.ref a0), some (.int x1), o2, o3] [] h
set_option maxRecDepth 20000 in
set_option maxHeartbeats 4000000 in
theorem mm_e53_0 (E : mm_E) (cl : mm_F) (n : Nat) (a0 : Nat) (h : mm_H) :
  mm_r53_0 E cl (n + 1) a0 h =
  mm_r53_2 E cl n a0 (mm_i 0) none none h := rfl
set_option maxRecDepth 20000 in
set_option maxHeartbeats 4000000 in
theorem mm_e53_2 (E : mm_E) (cl : mm_F) (n : Nat) (a0 : Nat) (x1 : Int32) (o2 : Option Value) (o3 : Option Value) (h : mm_H) :
  mm_r53_2 E cl (n + 1) a0 x1 o2 o3 h =
  mm_gI h a0 3 10 fun v_1 =>
  (mm_br (v_1 ≤ x1) (
  some (.inl (some (.int (mm_i (-1)))), h)) (
  mm_cI [] (cl 30 [.ref a0, .int x1, .int (mm_i 5)] h) fun v_3 h_2 =>
    mm_cI [] (cl 30 [.ref a0, .int x1, .int (mm_i 6)] h_2) fun v_5 h_4 =>
    mm_cI [] (cl 51 [.ref a0, .int x1] h_4) fun v_7 h_6 =>
    (mm_br (v_7 < (mm_i 0)) (
    some (.inl (some (.int x1)), h_6)) (
    (mm_br (v_3 = (mm_i (-1))) (
      (mm_br (v_5 = (mm_i (-1))) (
        mm_r53_2 E cl n a0 (x1 + (mm_i 1)) (some (.int v_3)) (some (.int v_5)) h_6) (
        mm_gR h_6 a0 3 4 fun p_8 =>
          mm_rI E h_6 p_8 x1 fun v_9 =>
          (mm_br (v_9 = v_5) (
          mm_r53_2 E cl n a0 (x1 + (mm_i 1)) (some (.int v_3)) (some (.int v_5)) h_6) (
          some (.inl (some (.int x1)), h_6)))))) (
      mm_gR h_6 a0 3 4 fun p_10 =>
        mm_rI E h_6 p_10 x1 fun v_11 =>
        (mm_br (v_3 < v_11) (
        some (.inl (some (.int x1)), h_6)) (
        (mm_br (v_5 = (mm_i (-1))) (
          mm_r53_2 E cl n a0 (x1 + (mm_i 1)) (some (.int v_3)) (some (.int v_5)) h_6) (
          mm_gR h_6 a0 3 4 fun p_12 =>
            mm_rI E h_6 p_12 x1 fun v_13 =>
            (mm_br (v_13 = v_5) (
            mm_r53_2 E cl n a0 (x1 + (mm_i 1)) (some (.int v_3)) (some (.int v_5)) h_6) (
            some (.inl (some (.int x1)), h_6))))))))))))) := rfl
-- Net.priceAtHand
def mm_r54_0 (E : mm_E) (cl : mm_F) (n : Nat) (a0 : Nat) (h : mm_H) : mm_R := mm_run E cl mm_m54 n 0 [some (.ref a0), none, none] [] h
def mm_r54_4 (E : mm_E) (cl : mm_F) (n : Nat) (a0 : Nat) (x1 : Int32) (x2 : Int32) (h : mm_H) : mm_R := mm_run E cl mm_m54 n 4 [some (.ref a0), some (.int x1), some (.int x2)] [] h
set_option maxRecDepth 20000 in
set_option maxHeartbeats 4000000 in
theorem mm_e54_0 (E : mm_E) (cl : mm_F) (n : Nat) (a0 : Nat) (h : mm_H) :
  mm_r54_0 E cl (n + 1) a0 h =
  mm_r54_4 E cl n a0 (mm_i 0) (mm_i 0) h := rfl
set_option maxRecDepth 20000 in
set_option maxHeartbeats 4000000 in
theorem mm_e54_4 (E : mm_E) (cl : mm_F) (n : Nat) (a0 : Nat) (x1 : Int32) (x2 : Int32) (h : mm_H) :
  mm_r54_4 E cl (n + 1) a0 x1 x2 h =
  mm_gI h a0 3 10 fun v_1 =>
  (mm_br (v_1 ≤ x2) (
  some (.inl (some (.int x1)), h)) (
  mm_cI [] (cl 52 [.ref a0, .int x2, .int (mm_i 5)] h) fun v_3 h_2 =>
    mm_r54_4 E cl n a0 (x1 + v_3) (x2 + (mm_i 1)) h_2)) := rfl
-- Net.holding
def mm_r55_0 (E : mm_E) (cl : mm_F) (n : Nat) (a0 : Nat) (h : mm_H) : mm_R := mm_run E cl mm_m55 n 0 [some (.ref a0), none, none] [] h
def mm_r55_4 (E : mm_E) (cl : mm_F) (n : Nat) (a0 : Nat) (x1 : Int32) (x2 : Int32) (h : mm_H) : mm_R := mm_run E cl mm_m55 n 4 [some (.ref a0), some (.int x1), some (.int x2)] [] h
set_option maxRecDepth 20000 in
set_option maxHeartbeats 4000000 in
theorem mm_e55_0 (E : mm_E) (cl : mm_F) (n : Nat) (a0 : Nat) (h : mm_H) :
  mm_r55_0 E cl (n + 1) a0 h =
  mm_r55_4 E cl n a0 (mm_i 0) (mm_i 0) h := rfl
set_option maxRecDepth 20000 in
set_option maxHeartbeats 4000000 in
theorem mm_e55_4 (E : mm_E) (cl : mm_F) (n : Nat) (a0 : Nat) (x1 : Int32) (x2 : Int32) (h : mm_H) :
  mm_r55_4 E cl (n + 1) a0 x1 x2 h =
  mm_gI h a0 3 10 fun v_1 =>
  (mm_br (v_1 ≤ x2) (
  some (.inl (some (.int x1)), h)) (
  mm_cI [] (cl 52 [.ref a0, .int x2, .int (mm_i 3)] h) fun v_3 h_2 =>
    (mm_br (v_3 ≤ (mm_i 0)) (
    mm_r55_4 E cl n a0 (x1 ||| (mm_i 0)) (x2 + (mm_i 1)) h_2) (
    mm_r55_4 E cl n a0 (x1 ||| ((mm_i 1) <<< (x2 &&& 31))) (x2 + (mm_i 1)) h_2)))) := rfl
-- Net.planZero
def mm_r56_0 (E : mm_E) (cl : mm_F) (n : Nat) (a0 : Nat) (h : mm_H) : mm_R := mm_run E cl mm_m56 n 0 [some (.ref a0), none] [] h
def mm_r56_2 (E : mm_E) (cl : mm_F) (n : Nat) (a0 : Nat) (x1 : Int32) (h : mm_H) : mm_R := mm_run E cl mm_m56 n 2 [some (.ref a0), some (.int x1)] [] h
set_option maxRecDepth 20000 in
set_option maxHeartbeats 4000000 in
theorem mm_e56_0 (E : mm_E) (cl : mm_F) (n : Nat) (a0 : Nat) (h : mm_H) :
  mm_r56_0 E cl (n + 1) a0 h =
  mm_r56_2 E cl n a0 (mm_i 0) h := rfl
set_option maxRecDepth 20000 in
set_option maxHeartbeats 4000000 in
theorem mm_e56_2 (E : mm_E) (cl : mm_F) (n : Nat) (a0 : Nat) (x1 : Int32) (h : mm_H) :
  mm_r56_2 E cl (n + 1) a0 x1 h =
  mm_gI h a0 3 10 fun v_1 =>
  (mm_br (v_1 ≤ x1) (
  some (.inl none, h)) (
  mm_gR h a0 3 4 fun p_2 =>
    mm_wI h p_2 x1 (mm_i 0) fun h_3 =>
    mm_r56_2 E cl n a0 (x1 + (mm_i 1)) h_3)) := rfl
-- Net.planLazily
def mm_r57_0 (E : mm_E) (cl : mm_F) (n : Nat) (a0 : Nat) (h : mm_H) : mm_R := mm_run E cl mm_m57 n 0 [some (.ref a0), none, none, none] [] h
def mm_r57_2 (E : mm_E) (cl : mm_F) (n : Nat) (a0 : Nat) (x1 : Int32) (o2 : Option Value) (o3 : Option Value) (h : mm_H) : mm_R := mm_run E cl mm_m57 n 2 [some (.ref a0), some (.int x1), o2, o3] [] h
set_option maxRecDepth 20000 in
set_option maxHeartbeats 4000000 in
theorem mm_e57_0 (E : mm_E) (cl : mm_F) (n : Nat) (a0 : Nat) (h : mm_H) :
  mm_r57_0 E cl (n + 1) a0 h =
  mm_r57_2 E cl n a0 (mm_i 0) none none h := rfl
set_option maxRecDepth 20000 in
set_option maxHeartbeats 4000000 in
theorem mm_e57_2 (E : mm_E) (cl : mm_F) (n : Nat) (a0 : Nat) (x1 : Int32) (o2 : Option Value) (o3 : Option Value) (h : mm_H) :
  mm_r57_2 E cl (n + 1) a0 x1 o2 o3 h =
  mm_gI h a0 3 10 fun v_1 =>
  (mm_br (v_1 ≤ x1) (
  some (.inl none, h)) (
  mm_gR h a0 3 6 fun p_2 =>
    mm_rI E h p_2 x1 fun v_3 =>
    mm_cI [] (cl 50 [.ref a0, .int v_3] h) fun v_5 h_4 =>
    mm_cI [] (cl 30 [.ref a0, .int v_3, .int (mm_i 0)] h_4) fun v_7 h_6 =>
    mm_cI [] (cl 30 [.ref a0, .int v_3, .int (mm_i 5)] h_6) fun v_9 h_8 =>
    (mm_br (v_9 = (mm_i (-1))) (
    mm_gR h_8 a0 3 4 fun p_19 =>
      mm_cI [] (cl 30 [.ref a0, .int v_3, .int (mm_i 6)] h_8) fun v_21 h_20 =>
      (mm_br (v_21 = (mm_i (-1))) (
      mm_wI h_20 p_19 v_3 (v_5 + v_7) fun h_25 =>
        mm_r57_2 E cl n a0 (x1 + (mm_i 1)) (some (.int v_3)) (some (.int (v_5 + v_7))) h_25) (
      mm_cI [] (cl 30 [.ref a0, .int v_3, .int (mm_i 6)] h_20) fun v_23 h_22 =>
        mm_wI h_22 p_19 v_3 (mm_mn (v_5 + v_7) v_23) fun h_24 =>
        mm_r57_2 E cl n a0 (x1 + (mm_i 1)) (some (.int v_3)) (some (.int (v_5 + v_7))) h_24))) (
    mm_cI [] (cl 30 [.ref a0, .int v_3, .int (mm_i 5)] h_8) fun v_11 h_10 =>
      mm_gR h_10 a0 3 4 fun p_12 =>
      mm_cI [] (cl 30 [.ref a0, .int v_3, .int (mm_i 6)] h_10) fun v_14 h_13 =>
      (mm_br (v_14 = (mm_i (-1))) (
      mm_wI h_13 p_12 v_3 (mm_mn (v_5 + v_7) v_11) fun h_18 =>
        mm_r57_2 E cl n a0 (x1 + (mm_i 1)) (some (.int v_3)) (some (.int (mm_mn (v_5 + v_7) v_11))) h_18) (
      mm_cI [] (cl 30 [.ref a0, .int v_3, .int (mm_i 6)] h_13) fun v_16 h_15 =>
        mm_wI h_15 p_12 v_3 (mm_mn (mm_mn (v_5 + v_7) v_11) v_16) fun h_17 =>
        mm_r57_2 E cl n a0 (x1 + (mm_i 1)) (some (.int v_3)) (some (.int (mm_mn (v_5 + v_7) v_11))) h_17)))))) := rfl
-- Net.planHalf
def mm_r58_0 (E : mm_E) (cl : mm_F) (n : Nat) (a0 : Nat) (h : mm_H) : mm_R := mm_run E cl mm_m58 n 0 [some (.ref a0), none] [] h
def mm_r58_6 (E : mm_E) (cl : mm_F) (n : Nat) (a0 : Nat) (x1 : Int32) (h : mm_H) : mm_R := mm_run E cl mm_m58 n 6 [some (.ref a0), some (.int x1)] [] h
set_option maxRecDepth 20000 in
set_option maxHeartbeats 4000000 in
theorem mm_e58_0 (E : mm_E) (cl : mm_F) (n : Nat) (a0 : Nat) (h : mm_H) :
  mm_r58_0 E cl (n + 1) a0 h =
  mm_cV [] (cl 57 [.ref a0] h) fun h_1 =>
  mm_r58_6 E cl n a0 (mm_i 0) h_1 := rfl
set_option maxRecDepth 20000 in
set_option maxHeartbeats 4000000 in
theorem mm_e58_6 (E : mm_E) (cl : mm_F) (n : Nat) (a0 : Nat) (x1 : Int32) (h : mm_H) :
  mm_r58_6 E cl (n + 1) a0 x1 h =
  mm_gI h a0 3 10 fun v_1 =>
  (mm_br (v_1 ≤ x1) (
  some (.inl none, h)) (
  mm_gR h a0 3 4 fun p_2 =>
    mm_cI [] (cl 30 [.ref a0, .int x1, .int (mm_i 6)] h) fun v_4 h_3 =>
    (mm_br (v_4 = (mm_i (-1))) (
    mm_gR h_3 a0 3 4 fun p_8 =>
      mm_rI E h_3 p_8 x1 fun v_9 =>
      (mm_nz (mm_i 2) (
      mm_wI h_3 p_2 x1 (v_9 / (mm_i 2)) fun h_10 =>
      mm_r58_6 E cl n a0 (x1 + (mm_i 1)) h_10))) (
    mm_cI [] (cl 30 [.ref a0, .int x1, .int (mm_i 6)] h_3) fun v_6 h_5 =>
      mm_wI h_5 p_2 x1 v_6 fun h_7 =>
      mm_r58_6 E cl n a0 (x1 + (mm_i 1)) h_7)))) := rfl
-- Net.allBelow
def mm_r59_0 (E : mm_E) (cl : mm_F) (n : Nat) (a0 : Nat) (x1 : Int32) (h : mm_H) : mm_R := mm_run E cl mm_m59 n 0 [some (.ref a0), some (.int x1), none, none] [] h
def mm_r59_6 (E : mm_E) (cl : mm_F) (n : Nat) (a0 : Nat) (x1 : Int32) (x2 : Int32) (x3 : Int32) (h : mm_H) : mm_R := mm_run E cl mm_m59 n 6 [some (.ref a0), some (.int x1), some (.int x2), some (.int x3)] [] h
set_option maxRecDepth 20000 in
set_option maxHeartbeats 4000000 in
theorem mm_e59_0 (E : mm_E) (cl : mm_F) (n : Nat) (a0 : Nat) (x1 : Int32) (h : mm_H) :
  mm_r59_0 E cl (n + 1) a0 x1 h =
  mm_r59_6 E cl n a0 x1 ((mm_i 1) <<< (x1 &&& 31)) (mm_i 0) h := rfl
set_option maxRecDepth 20000 in
set_option maxHeartbeats 4000000 in
theorem mm_e59_6 (E : mm_E) (cl : mm_F) (n : Nat) (a0 : Nat) (x1 : Int32) (x2 : Int32) (x3 : Int32) (h : mm_H) :
  mm_r59_6 E cl (n + 1) a0 x1 x2 x3 h =
  mm_gI h a0 3 10 fun v_1 =>
  (mm_br (v_1 ≤ x3) (
  some (.inl (some (.int x2)), h)) (
  mm_gR h a0 3 6 fun p_2 =>
    mm_rI E h p_2 x3 fun v_3 =>
    mm_cI [] (cl 61 [.int x2, .int v_3] h) fun v_5 h_4 =>
    (mm_br (v_5 = (mm_i 0)) (
    mm_r59_6 E cl n a0 x1 (x2 ||| (mm_i 0)) (x3 + (mm_i 1)) h_4) (
    mm_gR h_4 a0 3 3 fun p_6 =>
      mm_gR h_4 a0 3 6 fun p_7 =>
      mm_rI E h_4 p_7 x3 fun v_8 =>
      mm_rI E h_4 p_6 v_8 fun v_9 =>
      mm_r59_6 E cl n a0 x1 (x2 ||| v_9) (x3 + (mm_i 1)) h_4)))) := rfl
-- Net.aheadInChain
def mm_r60_0 (E : mm_E) (cl : mm_F) (n : Nat) (a0 : Nat) (x1 : Int32) (h : mm_H) : mm_R := mm_run E cl mm_m60 n 0 [some (.ref a0), some (.int x1), none, none] [] h
def mm_r60_4 (E : mm_E) (cl : mm_F) (n : Nat) (a0 : Nat) (x1 : Int32) (x2 : Int32) (x3 : Int32) (h : mm_H) : mm_R := mm_run E cl mm_m60 n 4 [some (.ref a0), some (.int x1), some (.int x2), some (.int x3)] [] h
set_option maxRecDepth 20000 in
set_option maxHeartbeats 4000000 in
theorem mm_e60_0 (E : mm_E) (cl : mm_F) (n : Nat) (a0 : Nat) (x1 : Int32) (h : mm_H) :
  mm_r60_0 E cl (n + 1) a0 x1 h =
  mm_r60_4 E cl n a0 x1 (mm_i (-1)) (mm_i 0) h := rfl
set_option maxRecDepth 20000 in
set_option maxHeartbeats 4000000 in
theorem mm_e60_4 (E : mm_E) (cl : mm_F) (n : Nat) (a0 : Nat) (x1 : Int32) (x2 : Int32) (x3 : Int32) (h : mm_H) :
  mm_r60_4 E cl (n + 1) a0 x1 x2 x3 h =
  mm_gI h a0 3 10 fun v_1 =>
  (mm_br (v_1 ≤ x3) (
  (mm_br (x2 = (mm_i (-1))) (
    (mm_br ((mm_i 0) = (mm_i 0)) (
      some (.inl (some (.int (mm_i (-1)))), h)) (
      some (.inl (some (.int x2)), h)))) (
    mm_gR h a0 3 9 fun p_2 =>
      mm_rI E h p_2 x2 fun v_3 =>
      mm_cI [] (cl 30 [.ref a0, .int x1, .int (mm_i 0)] h) fun v_5 h_4 =>
      mm_gR h_4 a0 3 9 fun p_6 =>
      mm_rI E h_4 p_6 x1 fun v_7 =>
      (mm_br ((v_3 + v_5) = v_7) (
      (mm_br ((mm_i 1) = (mm_i 0)) (
        some (.inl (some (.int (mm_i (-1)))), h_4)) (
        some (.inl (some (.int x2)), h_4)))) (
      (mm_br ((mm_i 0) = (mm_i 0)) (
        some (.inl (some (.int (mm_i (-1)))), h_4)) (
        some (.inl (some (.int x2)), h_4)))))))) (
  mm_cI [] (cl 32 [.ref a0, .int x3, .int x1] h) fun v_9 h_8 =>
    (mm_br (v_9 = (mm_i 0)) (
    mm_r60_4 E cl n a0 x1 x2 (x3 + (mm_i 1)) h_8) (
    (mm_br (x2 = (mm_i (-1))) (
      mm_r60_4 E cl n a0 x1 x3 (x3 + (mm_i 1)) h_8) (
      mm_gR h_8 a0 3 9 fun p_10 =>
        mm_rI E h_8 p_10 x3 fun v_11 =>
        mm_gR h_8 a0 3 9 fun p_12 =>
        mm_rI E h_8 p_12 x2 fun v_13 =>
        (mm_br (v_11 ≤ v_13) (
        mm_r60_4 E cl n a0 x1 x2 (x3 + (mm_i 1)) h_8) (
        mm_r60_4 E cl n a0 x1 x3 (x3 + (mm_i 1)) h_8)))))))) := rfl
-- Net.has
def mm_r61_0 (E : mm_E) (cl : mm_F) (n : Nat) (x0 : Int32) (x1 : Int32) (h : mm_H) : mm_R := mm_run E cl mm_m61 n 0 [some (.int x0), some (.int x1)] [] h
set_option maxRecDepth 20000 in
set_option maxHeartbeats 4000000 in
theorem mm_e61_0 (E : mm_E) (cl : mm_F) (n : Nat) (x0 : Int32) (x1 : Int32) (h : mm_H) :
  mm_r61_0 E cl (n + 1) x0 x1 h =
  (mm_br (((x0 >>> (x1 &&& 31)) &&& (mm_i 1)) = (mm_i 0)) (
  (mm_bz (mm_i 0) (some (.inl (some (.int (mm_i 0))), h)))) (
  (mm_bz (mm_i 1) (some (.inl (some (.int (mm_i 1))), h))))) := rfl
-- Que.init
def mm_r62_0 (E : mm_E) (cl : mm_F) (n : Nat) (a0 : Nat) (a1 : Nat) (a2 : Nat) (h : mm_H) : mm_R := mm_run E cl mm_m62 n 0 [some (.ref a0), some (.ref a1), some (.ref a2)] [] h
set_option maxRecDepth 20000 in
set_option maxHeartbeats 4000000 in
theorem mm_e62_0 (E : mm_E) (cl : mm_F) (n : Nat) (a0 : Nat) (a1 : Nat) (a2 : Nat) (h : mm_H) :
  mm_r62_0 E cl (n + 1) a0 a1 a2 h =
  mm_nn (mm_i 200) fun k_3 => mm_al h (.inr (.inl (k_3, fun _ => 0))) k_3 fun p_1 h_2 =>
  mm_pF h_2 a0 4 2 (.ref p_1) fun h_4 =>
  mm_nn (mm_i 64) fun k_7 => mm_al h_4 (.inr (.inl (k_7, fun _ => 0))) k_7 fun p_5 h_6 =>
  mm_pF h_6 a0 4 3 (.ref p_5) fun h_8 =>
  mm_pF h_8 a0 4 4 (.int (mm_i 0)) fun h_9 =>
  mm_pF h_9 a0 4 5 (.int (mm_i 0)) fun h_10 =>
  mm_pF h_10 a0 4 6 (.int (mm_i 0)) fun h_11 =>
  mm_pF h_11 a0 4 0 (.ref a1) fun h_12 =>
  mm_pF h_12 a0 4 1 (.ref a2) fun h_13 =>
  some (.inl none, h_13) := rfl
-- Que.read
def mm_r63_0 (E : mm_E) (cl : mm_F) (n : Nat) (a0 : Nat) (x1 : Int32) (h : mm_H) : mm_R := mm_run E cl mm_m63 n 0 [some (.ref a0), some (.int x1), none] [] h
set_option maxRecDepth 20000 in
set_option maxHeartbeats 4000000 in
theorem mm_e63_0 (E : mm_E) (cl : mm_F) (n : Nat) (a0 : Nat) (x1 : Int32) (h : mm_H) :
  mm_r63_0 E cl (n + 1) a0 x1 h =
  mm_pF h a0 4 6 (.int (mm_i 0)) fun h_1 =>
  mm_pF h_1 a0 4 4 (.int (mm_i 0)) fun h_2 =>
  mm_gR h_2 a0 4 0 fun p_3 =>
  mm_cV [] (cl 94 [.ref p_3, .int x1] h_2) fun h_4 =>
  mm_gR h_4 a0 4 0 fun p_5 =>
  mm_cI [] (cl 98 [.ref p_5, .ref (E.2.2.1 18)] h_4) fun v_7 h_6 =>
  mm_pF h_6 a0 4 5 (.int v_7) fun h_8 =>
  mm_gI h_8 a0 4 5 fun v_9 =>
  (mm_br (v_9 = (mm_i (-1))) (
  some (.inl (some (.int (mm_i 1))), h_8)) (
  mm_gR h_8 a0 4 0 fun p_10 =>
    mm_cV [] (cl 95 [.ref p_10] h_8) fun h_11 =>
    mm_gI h_11 a0 4 5 fun v_12 =>
    (mm_br ((mm_i 2) ≤ v_12) (
    mm_cI [] (cl 66 [.ref a0, .int (mm_i 0)] h_11) fun v_14 h_13 =>
      (mm_br (v_14 = (mm_i 0)) (
      mm_gI h_13 a0 4 6 fun v_15 =>
        some (.inl (some (.int v_15)), h_13)) (
      mm_gR h_13 a0 4 0 fun p_16 =>
        mm_gI h_13 p_16 7 5 fun v_17 =>
        (mm_br (v_17 = (mm_i 0)) (
        mm_gI h_13 a0 4 6 fun v_18 =>
          some (.inl (some (.int v_18)), h_13)) (
        mm_pF h_13 a0 4 6 (.int (mm_i 1)) fun h_19 =>
          mm_gI h_19 a0 4 6 fun v_20 =>
          some (.inl (some (.int v_20)), h_19)))))) (
    mm_cI [] (cl 64 [.ref a0, .int (mm_i 0)] h_11) fun v_22 h_21 =>
      (mm_br (v_22 = (mm_i 0)) (
      mm_gI h_21 a0 4 6 fun v_23 =>
        some (.inl (some (.int v_23)), h_21)) (
      mm_gR h_21 a0 4 0 fun p_24 =>
        mm_gI h_21 p_24 7 5 fun v_25 =>
        (mm_br (v_25 = (mm_i 0)) (
        mm_gI h_21 a0 4 6 fun v_26 =>
          some (.inl (some (.int v_26)), h_21)) (
        mm_pF h_21 a0 4 6 (.int (mm_i 1)) fun h_27 =>
          mm_gI h_27 a0 4 6 fun v_28 =>
          some (.inl (some (.int v_28)), h_27))))))))) := rfl
-- Que.readTest
def mm_r64_0 (E : mm_E) (cl : mm_F) (n : Nat) (a0 : Nat) (x1 : Int32) (h : mm_H) : mm_R := mm_run E cl mm_m64 n 0 [some (.ref a0), some (.int x1), none, none] [] h
def mm_r64_2 (E : mm_E) (cl : mm_F) (n : Nat) (a0 : Nat) (x1 : Int32) (x2 : Int32) (o3 : Option Value) (h : mm_H) : mm_R := mm_run E cl mm_m64 n 2 [some (.ref a0), some (.int x1), some (.int x2), o3] [] h
def mm_r64_21 (E : mm_E) (cl : mm_F) (n : Nat) (a0 : Nat) (x1 : Int32) (x2 : Int32) (x3 : Int32) (h : mm_H) : mm_R := mm_run E cl mm_m64 n 21 [some (.ref a0), some (.int x1), some (.int x2), some (.int x3)] [] h
def mm_r64_74 (E : mm_E) (cl : mm_F) (n : Nat) (a0 : Nat) (x1 : Int32) (x2 : Int32) (x3 : Int32) (h : mm_H) : mm_R := mm_run E cl mm_m64 n 74 [some (.ref a0), some (.int x1), some (.int x2), some (.int x3)] [] h
set_option maxRecDepth 20000 in
set_option maxHeartbeats 4000000 in
theorem mm_e64_0 (E : mm_E) (cl : mm_F) (n : Nat) (a0 : Nat) (x1 : Int32) (h : mm_H) :
  mm_r64_0 E cl (n + 1) a0 x1 h =
  mm_r64_2 E cl n a0 x1 (mm_i 0) none h := rfl
set_option maxRecDepth 20000 in
set_option maxHeartbeats 4000000 in
theorem mm_e64_2 (E : mm_E) (cl : mm_F) (n : Nat) (a0 : Nat) (x1 : Int32) (x2 : Int32) (o3 : Option Value) (h : mm_H) :
  mm_r64_2 E cl (n + 1) a0 x1 x2 o3 h =
  (mm_br ((mm_i 200) ≤ x2) (
  mm_cI [] (cl 70 [.ref a0, .int (mm_i 1)] h) fun v_2 h_1 =>
    (mm_bz v_2 (some (.inl (some (.int v_2)), h_1)))) (
  mm_cI [] (cl 65 [.ref a0, .int x1] h) fun v_4 h_3 =>
    (mm_br (v_4 = (mm_i 0)) (
    (mm_bz (mm_i 0) (some (.inl (some (.int (mm_i 0))), h_3)))) (
    mm_r64_21 E cl n a0 x1 x2 (mm_i 0) h_3)))) := rfl
set_option maxRecDepth 20000 in
set_option maxHeartbeats 4000000 in
theorem mm_e64_21 (E : mm_E) (cl : mm_F) (n : Nat) (a0 : Nat) (x1 : Int32) (x2 : Int32) (x3 : Int32) (h : mm_H) :
  mm_r64_21 E cl (n + 1) a0 x1 x2 x3 h =
  (mm_br ((mm_i 200) ≤ x3) (
  (mm_br (x2 ≤ (mm_i 0)) (
    mm_r64_74 E cl n a0 x1 x2 x3 h) (
    mm_cI [] (cl 69 [.ref a0, .int (mm_i 38)] h) fun v_2 h_1 =>
      mm_r64_74 E cl n a0 x1 x2 x3 h_1))) (
  mm_gR h a0 4 0 fun p_3 =>
    mm_cI [] (cl 97 [.ref p_3, .ref (E.2.2.1 21)] h) fun v_5 h_4 =>
    (mm_br (v_5 = (mm_i 0)) (
    (mm_br (x2 ≤ (mm_i 0)) (
      mm_r64_74 E cl n a0 x1 x2 x3 h_4) (
      mm_cI [] (cl 69 [.ref a0, .int (mm_i 38)] h_4) fun v_7 h_6 =>
        mm_r64_74 E cl n a0 x1 x2 x3 h_6))) (
    mm_cI [] (cl 65 [.ref a0, .int x1] h_4) fun v_9 h_8 =>
      (mm_br (v_9 = (mm_i 0)) (
      (mm_bz (mm_i 0) (some (.inl (some (.int (mm_i 0))), h_8)))) (
      mm_cI [] (cl 69 [.ref a0, .int (mm_i 37)] h_8) fun v_11 h_10 =>
        mm_r64_21 E cl n a0 x1 x2 (x3 + (mm_i 1)) h_10)))))) := rfl
set_option maxRecDepth 20000 in
set_option maxHeartbeats 4000000 in
theorem mm_e64_74 (E : mm_E) (cl : mm_F) (n : Nat) (a0 : Nat) (x1 : Int32) (x2 : Int32) (x3 : Int32) (h : mm_H) :
  mm_r64_74 E cl (n + 1) a0 x1 x2 x3 h =
  mm_gR h a0 4 0 fun p_1 =>
  mm_cI [] (cl 97 [.ref p_1, .ref (E.2.2.1 22)] h) fun v_3 h_2 =>
  (mm_br (v_3 = (mm_i 0)) (
  (mm_bz (mm_i 1) (some (.inl (some (.int (mm_i 1))), h_2)))) (
  mm_r64_2 E cl n a0 x1 (x2 + (mm_i 1)) (some (.int x3)) h_2)) := rfl
-- Que.readFact
def mm_r65_0 (E : mm_E) (cl : mm_F) (n : Nat) (a0 : Nat) (x1 : Int32) (h : mm_H) : mm_R := mm_run E cl mm_m65 n 0 [some (.ref a0), some (.int x1), none, none] [] h
def mm_r65_17 (E : mm_E) (cl : mm_F) (n : Nat) (a0 : Nat) (x1 : Int32) (o2 : Option Value) (o3 : Option Value) (s0 : Int32) (h : mm_H) : mm_R := mm_run E cl mm_m65 n 17 [some (.ref a0), some (.int x1), o2, o3] [.int s0] h
def mm_r65_34 (E : mm_E) (cl : mm_F) (n : Nat) (a0 : Nat) (x1 : Int32) (x2 : Int32) (o3 : Option Value) (h : mm_H) : mm_R := mm_run E cl mm_m65 n 34 [some (.ref a0), some (.int x1), some (.int x2), o3] [] h
def mm_r65_183 (E : mm_E) (cl : mm_F) (n : Nat) (a0 : Nat) (x1 : Int32) (x2 : Int32) (o3 : Option Value) (s0 : Int32) (h : mm_H) : mm_R := mm_run E cl mm_m65 n 183 [some (.ref a0), some (.int x1), some (.int x2), o3] [.int s0] h
set_option maxRecDepth 20000 in
set_option maxHeartbeats 4000000 in
theorem mm_e65_0 (E : mm_E) (cl : mm_F) (n : Nat) (a0 : Nat) (x1 : Int32) (h : mm_H) :
  mm_r65_0 E cl (n + 1) a0 x1 h =
  mm_gR h a0 4 0 fun p_1 =>
  mm_cI [] (cl 98 [.ref p_1, .ref (E.2.2.1 19)] h) fun v_3 h_2 =>
  (mm_br (v_3 = (mm_i 0)) (
  mm_r65_17 E cl n a0 x1 none none (mm_i 1) h_2) (
  mm_r65_17 E cl n a0 x1 none none (mm_i 0) h_2)) := rfl
set_option maxRecDepth 20000 in
set_option maxHeartbeats 4000000 in
theorem mm_e65_17 (E : mm_E) (cl : mm_F) (n : Nat) (a0 : Nat) (x1 : Int32) (o2 : Option Value) (o3 : Option Value) (s0 : Int32) (h : mm_H) :
  mm_r65_17 E cl (n + 1) a0 x1 o2 o3 s0 h =
  (mm_br (s0 = (mm_i 0)) (
  mm_gR h a0 4 0 fun p_1 =>
    mm_cI [] (cl 96 [.ref p_1, .int (mm_i 123)] h) fun v_3 h_2 =>
    (mm_br (v_3 = (mm_i 0)) (
    mm_cI [] (cl 66 [.ref a0, .int x1] h_2) fun v_5 h_4 =>
      (mm_br (v_5 = (mm_i 0)) (
      (mm_bz (mm_i 0) (some (.inl (some (.int (mm_i 0))), h_4)))) (
      mm_gR h_4 a0 4 0 fun p_6 =>
        mm_cI [] (cl 96 [.ref p_6, .int (mm_i 60)] h_4) fun v_8 h_7 =>
        (mm_br (v_8 = (mm_i 0)) (
        mm_gR h_7 a0 4 0 fun p_9 =>
          mm_cI [] (cl 96 [.ref p_9, .int (mm_i 61)] h_7) fun v_11 h_10 =>
          (mm_br (v_11 = (mm_i 0)) (
          mm_gR h_10 a0 4 0 fun p_12 =>
            mm_cI [] (cl 96 [.ref p_12, .int (mm_i 62)] h_10) fun v_14 h_13 =>
            (mm_br (v_14 = (mm_i 0)) (
            mm_r65_183 E cl n a0 x1 s0 o3 (mm_i (-1)) h_13) (
            mm_r65_183 E cl n a0 x1 s0 o3 (mm_i 35) h_13))) (
          mm_r65_183 E cl n a0 x1 s0 o3 (mm_i 34) h_10))) (
        mm_r65_183 E cl n a0 x1 s0 o3 (mm_i 33) h_7))))) (
    mm_r65_34 E cl n a0 x1 s0 o3 h_2))) (
  mm_r65_34 E cl n a0 x1 s0 o3 h)) := rfl
set_option maxRecDepth 20000 in
set_option maxHeartbeats 4000000 in
theorem mm_e65_34 (E : mm_E) (cl : mm_F) (n : Nat) (a0 : Nat) (x1 : Int32) (x2 : Int32) (o3 : Option Value) (h : mm_H) :
  mm_r65_34 E cl (n + 1) a0 x1 x2 o3 h =
  (mm_br (x1 < (mm_i 6)) (
  mm_gR h a0 4 0 fun p_1 =>
    mm_cV [] (cl 95 [.ref p_1] h) fun h_2 =>
    (mm_br (x2 = (mm_i 0)) (
    mm_cI [] (cl 64 [.ref a0, .int (x1 + (mm_i 1))] h_2) fun v_4 h_3 =>
      (mm_br (v_4 = (mm_i 0)) (
      (mm_bz (mm_i 0) (some (.inl (some (.int (mm_i 0))), h_3)))) (
      mm_gR h_3 a0 4 0 fun p_5 =>
        mm_cI [] (cl 96 [.ref p_5, .int (mm_i 125)] h_3) fun v_7 h_6 =>
        (mm_br (v_7 = (mm_i 0)) (
        mm_cI [] (cl 70 [.ref a0, .int (mm_i 1)] h_6) fun v_11 h_10 =>
          (mm_bz v_11 (some (.inl (some (.int v_11)), h_10)))) (
        mm_gR h_6 a0 4 0 fun p_8 =>
          mm_cV [] (cl 95 [.ref p_8] h_6) fun h_9 =>
          (mm_bz (mm_i 1) (some (.inl (some (.int (mm_i 1))), h_9)))))))) (
    mm_cI [] (cl 65 [.ref a0, .int (x1 + (mm_i 1))] h_2) fun v_13 h_12 =>
      (mm_br (v_13 = (mm_i 0)) (
      (mm_bz (mm_i 0) (some (.inl (some (.int (mm_i 0))), h_12)))) (
      mm_cI [] (cl 69 [.ref a0, .int (mm_i 36)] h_12) fun v_15 h_14 =>
        (mm_br (v_15 = (mm_i 0)) (
        (mm_bz (mm_i 0) (some (.inl (some (.int (mm_i 0))), h_14)))) (
        (mm_bz (mm_i 1) (some (.inl (some (.int (mm_i 1))), h_14)))))))))) (
  mm_cI [] (cl 70 [.ref a0, .int (mm_i 3)] h) fun v_17 h_16 =>
    (mm_bz v_17 (some (.inl (some (.int v_17)), h_16))))) := rfl
set_option maxRecDepth 20000 in
set_option maxHeartbeats 4000000 in
theorem mm_e65_183 (E : mm_E) (cl : mm_F) (n : Nat) (a0 : Nat) (x1 : Int32) (x2 : Int32) (o3 : Option Value) (s0 : Int32) (h : mm_H) :
  mm_r65_183 E cl (n + 1) a0 x1 x2 o3 s0 h =
  (mm_br (s0 = (mm_i (-1))) (
  mm_cI [] (cl 70 [.ref a0, .int (mm_i 1)] h) fun v_8 h_7 =>
    (mm_bz v_8 (some (.inl (some (.int v_8)), h_7)))) (
  mm_gR h a0 4 0 fun p_1 =>
    mm_cV [] (cl 95 [.ref p_1] h) fun h_2 =>
    mm_cI [] (cl 66 [.ref a0, .int x1] h_2) fun v_4 h_3 =>
    (mm_br (v_4 = (mm_i 0)) (
    (mm_bz (mm_i 0) (some (.inl (some (.int (mm_i 0))), h_3)))) (
    mm_cI [] (cl 69 [.ref a0, .int s0] h_3) fun v_6 h_5 =>
      (mm_br (v_6 = (mm_i 0)) (
      (mm_bz (mm_i 0) (some (.inl (some (.int (mm_i 0))), h_5)))) (
      (mm_bz (mm_i 1) (some (.inl (some (.int (mm_i 1))), h_5))))))))) := rfl
-- Que.readSum
def mm_r66_0 (E : mm_E) (cl : mm_F) (n : Nat) (a0 : Nat) (x1 : Int32) (h : mm_H) : mm_R := mm_run E cl mm_m66 n 0 [some (.ref a0), some (.int x1), none, none, none] [] h
def mm_r66_4 (E : mm_E) (cl : mm_F) (n : Nat) (a0 : Nat) (x1 : Int32) (x2 : Int32) (x3 : Int32) (o4 : Option Value) (h : mm_H) : mm_R := mm_run E cl mm_m66 n 4 [some (.ref a0), some (.int x1), some (.int x2), some (.int x3), o4] [] h
def mm_r66_24 (E : mm_E) (cl : mm_F) (n : Nat) (a0 : Nat) (x1 : Int32) (x2 : Int32) (x3 : Int32) (x4 : Int32) (h : mm_H) : mm_R := mm_run E cl mm_m66 n 24 [some (.ref a0), some (.int x1), some (.int x2), some (.int x3), some (.int x4)] [] h
def mm_r66_85 (E : mm_E) (cl : mm_F) (n : Nat) (a0 : Nat) (x1 : Int32) (x2 : Int32) (x3 : Int32) (x4 : Int32) (h : mm_H) : mm_R := mm_run E cl mm_m66 n 85 [some (.ref a0), some (.int x1), some (.int x2), some (.int x3), some (.int x4)] [] h
set_option maxRecDepth 20000 in
set_option maxHeartbeats 4000000 in
theorem mm_e66_0 (E : mm_E) (cl : mm_F) (n : Nat) (a0 : Nat) (x1 : Int32) (h : mm_H) :
  mm_r66_0 E cl (n + 1) a0 x1 h =
  mm_r66_4 E cl n a0 x1 (mm_i (-1)) (mm_i 0) none h := rfl
set_option maxRecDepth 20000 in
set_option maxHeartbeats 4000000 in
theorem mm_e66_4 (E : mm_E) (cl : mm_F) (n : Nat) (a0 : Nat) (x1 : Int32) (x2 : Int32) (x3 : Int32) (o4 : Option Value) (h : mm_H) :
  mm_r66_4 E cl (n + 1) a0 x1 x2 x3 o4 h =
  (mm_br ((mm_i 200) ≤ x3) (
  mm_cI [] (cl 70 [.ref a0, .int (mm_i 1)] h) fun v_2 h_1 =>
    (mm_bz v_2 (some (.inl (some (.int v_2)), h_1)))) (
  mm_cI [] (cl 67 [.ref a0, .int x1] h) fun v_4 h_3 =>
    (mm_br (v_4 = (mm_i 0)) (
    (mm_bz (mm_i 0) (some (.inl (some (.int (mm_i 0))), h_3)))) (
    mm_r66_24 E cl n a0 x1 x2 x3 (mm_i 0) h_3)))) := rfl
set_option maxRecDepth 20000 in
set_option maxHeartbeats 4000000 in
theorem mm_e66_24 (E : mm_E) (cl : mm_F) (n : Nat) (a0 : Nat) (x1 : Int32) (x2 : Int32) (x3 : Int32) (x4 : Int32) (h : mm_H) :
  mm_r66_24 E cl (n + 1) a0 x1 x2 x3 x4 h =
  (mm_br ((mm_i 200) ≤ x4) (
  (mm_br (x2 = (mm_i (-1))) (
    mm_r66_85 E cl n a0 x1 x2 x3 x4 h) (
    mm_cI [] (cl 69 [.ref a0, .int x2] h) fun v_2 h_1 =>
      mm_r66_85 E cl n a0 x1 x2 x3 x4 h_1))) (
  mm_gR h a0 4 0 fun p_3 =>
    mm_cI [] (cl 96 [.ref p_3, .int (mm_i 42)] h) fun v_5 h_4 =>
    (mm_br (v_5 = (mm_i 0)) (
    (mm_br (x2 = (mm_i (-1))) (
      mm_r66_85 E cl n a0 x1 x2 x3 x4 h_4) (
      mm_cI [] (cl 69 [.ref a0, .int x2] h_4) fun v_7 h_6 =>
        mm_r66_85 E cl n a0 x1 x2 x3 x4 h_6))) (
    mm_gR h_4 a0 4 0 fun p_8 =>
      mm_cV [] (cl 95 [.ref p_8] h_4) fun h_9 =>
      mm_cI [] (cl 67 [.ref a0, .int x1] h_9) fun v_11 h_10 =>
      (mm_br (v_11 = (mm_i 0)) (
      (mm_bz (mm_i 0) (some (.inl (some (.int (mm_i 0))), h_10)))) (
      mm_cI [] (cl 69 [.ref a0, .int (mm_i 30)] h_10) fun v_13 h_12 =>
        mm_r66_24 E cl n a0 x1 x2 x3 (x4 + (mm_i 1)) h_12)))))) := rfl
set_option maxRecDepth 20000 in
set_option maxHeartbeats 4000000 in
theorem mm_e66_85 (E : mm_E) (cl : mm_F) (n : Nat) (a0 : Nat) (x1 : Int32) (x2 : Int32) (x3 : Int32) (x4 : Int32) (h : mm_H) :
  mm_r66_85 E cl (n + 1) a0 x1 x2 x3 x4 h =
  mm_gR h a0 4 0 fun p_1 =>
  mm_cI [] (cl 96 [.ref p_1, .int (mm_i 43)] h) fun v_3 h_2 =>
  (mm_br (v_3 = (mm_i 0)) (
  mm_gR h_2 a0 4 0 fun p_4 =>
    mm_cI [] (cl 96 [.ref p_4, .int (mm_i 45)] h_2) fun v_6 h_5 =>
    (mm_br (v_6 = (mm_i 0)) (
    (mm_br ((mm_i (-1)) = (mm_i (-1))) (
      (mm_bz (mm_i 1) (some (.inl (some (.int (mm_i 1))), h_5)))) (
      mm_gR h_5 a0 4 0 fun p_7 =>
        mm_cV [] (cl 95 [.ref p_7] h_5) fun h_8 =>
        mm_r66_4 E cl n a0 x1 (mm_i (-1)) (x3 + (mm_i 1)) (some (.int x4)) h_8))) (
    (mm_br ((mm_i 32) = (mm_i (-1))) (
      (mm_bz (mm_i 1) (some (.inl (some (.int (mm_i 1))), h_5)))) (
      mm_gR h_5 a0 4 0 fun p_9 =>
        mm_cV [] (cl 95 [.ref p_9] h_5) fun h_10 =>
        mm_r66_4 E cl n a0 x1 (mm_i 32) (x3 + (mm_i 1)) (some (.int x4)) h_10))))) (
  (mm_br ((mm_i 31) = (mm_i (-1))) (
    (mm_bz (mm_i 1) (some (.inl (some (.int (mm_i 1))), h_2)))) (
    mm_gR h_2 a0 4 0 fun p_11 =>
      mm_cV [] (cl 95 [.ref p_11] h_2) fun h_12 =>
      mm_r66_4 E cl n a0 x1 (mm_i 31) (x3 + (mm_i 1)) (some (.int x4)) h_12)))) := rfl
-- Que.readPart
def mm_r67_0 (E : mm_E) (cl : mm_F) (n : Nat) (a0 : Nat) (x1 : Int32) (h : mm_H) : mm_R := mm_run E cl mm_m67 n 0 [some (.ref a0), some (.int x1)] [] h
set_option maxRecDepth 20000 in
set_option maxHeartbeats 4000000 in
theorem mm_e67_0 (E : mm_E) (cl : mm_F) (n : Nat) (a0 : Nat) (x1 : Int32) (h : mm_H) :
  mm_r67_0 E cl (n + 1) a0 x1 h =
  mm_gR h a0 4 0 fun p_1 =>
  mm_cI [] (cl 96 [.ref p_1, .int (mm_i 40)] h) fun v_3 h_2 =>
  (mm_br (v_3 = (mm_i 0)) (
  mm_cI [] (cl 68 [.ref a0] h_2) fun v_5 h_4 =>
    (mm_br (v_5 = (mm_i 0)) (
    (mm_bz (mm_i 0) (some (.inl (some (.int (mm_i 0))), h_4)))) (
    mm_gR h_4 a0 4 0 fun p_6 =>
      mm_cV [] (cl 95 [.ref p_6] h_4) fun h_7 =>
      (mm_bz (mm_i 1) (some (.inl (some (.int (mm_i 1))), h_7)))))) (
  (mm_br (x1 < (mm_i 6)) (
    mm_gR h_2 a0 4 0 fun p_8 =>
      mm_cV [] (cl 95 [.ref p_8] h_2) fun h_9 =>
      mm_cI [] (cl 66 [.ref a0, .int (x1 + (mm_i 1))] h_9) fun v_11 h_10 =>
      (mm_br (v_11 = (mm_i 0)) (
      (mm_bz (mm_i 0) (some (.inl (some (.int (mm_i 0))), h_10)))) (
      mm_gR h_10 a0 4 0 fun p_12 =>
        mm_cI [] (cl 96 [.ref p_12, .int (mm_i 41)] h_10) fun v_14 h_13 =>
        (mm_br (v_14 = (mm_i 0)) (
        mm_cI [] (cl 70 [.ref a0, .int (mm_i 1)] h_13) fun v_18 h_17 =>
          (mm_bz v_18 (some (.inl (some (.int v_18)), h_17)))) (
        mm_gR h_13 a0 4 0 fun p_15 =>
          mm_cV [] (cl 95 [.ref p_15] h_13) fun h_16 =>
          (mm_bz (mm_i 1) (some (.inl (some (.int (mm_i 1))), h_16)))))))) (
    mm_cI [] (cl 70 [.ref a0, .int (mm_i 3)] h_2) fun v_20 h_19 =>
      (mm_bz v_20 (some (.inl (some (.int v_20)), h_19))))))) := rfl
-- Que.markPart
def mm_r68_0 (E : mm_E) (cl : mm_F) (n : Nat) (a0 : Nat) (h : mm_H) : mm_R := mm_run E cl mm_m68 n 0 [some (.ref a0), none] [] h
set_option maxRecDepth 20000 in
set_option maxHeartbeats 4000000 in
theorem mm_e68_0 (E : mm_E) (cl : mm_F) (n : Nat) (a0 : Nat) (h : mm_H) :
  mm_r68_0 E cl (n + 1) a0 h =
  mm_gR h a0 4 0 fun p_1 =>
  mm_gI h p_1 7 5 fun v_2 =>
  (mm_br (v_2 = (mm_i 2)) (
  mm_gR h a0 4 0 fun p_10 =>
    mm_cI [] (cl 99 [.ref p_10] h) fun v_12 h_11 =>
    (mm_br ((mm_i 9999) < v_12) (
    mm_cI [] (cl 70 [.ref a0, .int (mm_i 2)] h_11) fun v_14 h_13 =>
      (mm_bz v_14 (some (.inl (some (.int v_14)), h_13)))) (
    mm_cI [] (cl 69 [.ref a0, .int ((mm_i 100) + v_12)] h_11) fun v_16 h_15 =>
      (mm_bz v_16 (some (.inl (some (.int v_16)), h_15)))))) (
  mm_gR h a0 4 0 fun p_3 =>
    mm_cI [] (cl 98 [.ref p_3, .ref (E.2.2.1 20)] h) fun v_5 h_4 =>
    (mm_br (v_5 = (mm_i (-1))) (
    mm_cI [] (cl 70 [.ref a0, .int (mm_i 1)] h_4) fun v_7 h_6 =>
      (mm_bz v_7 (some (.inl (some (.int v_7)), h_6)))) (
    mm_cI [] (cl 69 [.ref a0, .int v_5] h_4) fun v_9 h_8 =>
      (mm_bz v_9 (some (.inl (some (.int v_9)), h_8))))))) := rfl
-- Que.mark
def mm_r69_0 (E : mm_E) (cl : mm_F) (n : Nat) (a0 : Nat) (x1 : Int32) (h : mm_H) : mm_R := mm_run E cl mm_m69 n 0 [some (.ref a0), some (.int x1)] [] h
set_option maxRecDepth 20000 in
set_option maxHeartbeats 4000000 in
theorem mm_e69_0 (E : mm_E) (cl : mm_F) (n : Nat) (a0 : Nat) (x1 : Int32) (h : mm_H) :
  mm_r69_0 E cl (n + 1) a0 x1 h =
  mm_gI h a0 4 4 fun v_1 =>
  mm_gR h a0 4 2 fun p_2 =>
  mm_ln E h p_2 fun v_3 =>
  (mm_br (v_3 ≤ v_1) (
  (mm_bz (mm_i 1) (some (.inl (some (.int (mm_i 1))), h)))) (
  mm_gR h a0 4 2 fun p_4 =>
    mm_gI h a0 4 4 fun v_5 =>
    mm_wI h p_4 v_5 x1 fun h_6 =>
    mm_gI h_6 a0 4 4 fun v_7 =>
    mm_pF h_6 a0 4 4 (.int (v_7 + (mm_i 1))) fun h_8 =>
    (mm_bz (mm_i 1) (some (.inl (some (.int (mm_i 1))), h_8))))) := rfl
-- Que.refuse
def mm_r70_0 (E : mm_E) (cl : mm_F) (n : Nat) (a0 : Nat) (x1 : Int32) (h : mm_H) : mm_R := mm_run E cl mm_m70 n 0 [some (.ref a0), some (.int x1)] [] h
set_option maxRecDepth 20000 in
set_option maxHeartbeats 4000000 in
theorem mm_e70_0 (E : mm_E) (cl : mm_F) (n : Nat) (a0 : Nat) (x1 : Int32) (h : mm_H) :
  mm_r70_0 E cl (n + 1) a0 x1 h =
  mm_pF h a0 4 6 (.int x1) fun h_1 =>
  (mm_bz (mm_i 0) (some (.inl (some (.int (mm_i 0))), h_1))) := rfl
-- Que.answer
def mm_r71_0 (E : mm_E) (cl : mm_F) (n : Nat) (a0 : Nat) (h : mm_H) : mm_R := mm_run E cl mm_m71 n 0 [some (.ref a0), none, none, none] [] h
def mm_r71_16 (E : mm_E) (cl : mm_F) (n : Nat) (a0 : Nat) (x1 : Int32) (x2 : Int32) (o3 : Option Value) (h : mm_H) : mm_R := mm_run E cl mm_m71 n 16 [some (.ref a0), some (.int x1), some (.int x2), o3] [] h
set_option maxRecDepth 20000 in
set_option maxHeartbeats 4000000 in
theorem mm_e71_0 (E : mm_E) (cl : mm_F) (n : Nat) (a0 : Nat) (h : mm_H) :
  mm_r71_0 E cl (n + 1) a0 h =
  mm_gI h a0 4 5 fun v_1 =>
  (mm_br (v_1 = (mm_i 1)) (
  mm_r71_16 E cl n a0 (mm_i (-1)) (mm_i 0) none h) (
  mm_r71_16 E cl n a0 (mm_i 0) (mm_i 0) none h)) := rfl
set_option maxRecDepth 20000 in
set_option maxHeartbeats 4000000 in
theorem mm_e71_16 (E : mm_E) (cl : mm_F) (n : Nat) (a0 : Nat) (x1 : Int32) (x2 : Int32) (o3 : Option Value) (h : mm_H) :
  mm_r71_16 E cl (n + 1) a0 x1 x2 o3 h =
  mm_gR h a0 4 1 fun p_1 =>
  mm_gI h p_1 3 10 fun v_2 =>
  (mm_br (v_2 ≤ x2) (
  some (.inl (some (.int x1)), h)) (
  mm_cI [] (cl 72 [.ref a0, .int x2] h) fun v_4 h_3 =>
    mm_gI h_3 a0 4 5 fun v_5 =>
    (mm_br (v_5 = (mm_i 1)) (
    (mm_br (v_4 = (mm_i 0)) (
      mm_r71_16 E cl n a0 x1 (x2 + (mm_i 1)) (some (.int v_4)) h_3) (
      some (.inl (some (.int x2)), h_3)))) (
    (mm_br (v_5 = (mm_i 2)) (
    mm_r71_16 E cl n a0 (x1 + v_4) (x2 + (mm_i 1)) (some (.int v_4)) h_3) (
    (mm_br (v_5 = (mm_i 3)) (
    (mm_br (x2 = (mm_i 0)) (
      mm_r71_16 E cl n a0 v_4 (x2 + (mm_i 1)) (some (.int v_4)) h_3) (
      mm_r71_16 E cl n a0 (mm_mx x1 v_4) (x2 + (mm_i 1)) (some (.int v_4)) h_3))) (
    (mm_br (v_5 = (mm_i 4)) (
    (mm_br (x2 = (mm_i 0)) (
      mm_r71_16 E cl n a0 v_4 (x2 + (mm_i 1)) (some (.int v_4)) h_3) (
      mm_r71_16 E cl n a0 (mm_mn x1 v_4) (x2 + (mm_i 1)) (some (.int v_4)) h_3))) (
    mm_r71_16 E cl n a0 (x1 + v_4) (x2 + (mm_i 1)) (some (.int v_4)) h_3)))))))))) := rfl
-- Que.workOut
def mm_r72_0 (E : mm_E) (cl : mm_F) (n : Nat) (a0 : Nat) (x1 : Int32) (h : mm_H) : mm_R := mm_run E cl mm_m72 n 0 [some (.ref a0), some (.int x1), none, none, none] [] h
def mm_r72_4 (E : mm_E) (cl : mm_F) (n : Nat) (a0 : Nat) (x1 : Int32) (x2 : Int32) (x3 : Int32) (o4 : Option Value) (h : mm_H) : mm_R := mm_run E cl mm_m72 n 4 [some (.ref a0), some (.int x1), some (.int x2), some (.int x3), o4] [] h
def mm_r72_52 (E : mm_E) (cl : mm_F) (n : Nat) (a0 : Nat) (x1 : Int32) (x2 : Int32) (x3 : Int32) (x4 : Int32) (h : mm_H) : mm_R := mm_run E cl mm_m72 n 52 [some (.ref a0), some (.int x1), some (.int x2), some (.int x3), some (.int x4)] [] h
def mm_r72_104 (E : mm_E) (cl : mm_F) (n : Nat) (a0 : Nat) (x1 : Int32) (x2 : Int32) (x3 : Int32) (x4 : Int32) (h : mm_H) : mm_R := mm_run E cl mm_m72 n 104 [some (.ref a0), some (.int x1), some (.int x2), some (.int x3), some (.int x4)] [] h
set_option maxRecDepth 20000 in
set_option maxHeartbeats 4000000 in
theorem mm_e72_0 (E : mm_E) (cl : mm_F) (n : Nat) (a0 : Nat) (x1 : Int32) (h : mm_H) :
  mm_r72_0 E cl (n + 1) a0 x1 h =
  mm_r72_4 E cl n a0 x1 (mm_i 0) (mm_i 0) none h := rfl
set_option maxRecDepth 20000 in
set_option maxHeartbeats 4000000 in
theorem mm_e72_4 (E : mm_E) (cl : mm_F) (n : Nat) (a0 : Nat) (x1 : Int32) (x2 : Int32) (x3 : Int32) (o4 : Option Value) (h : mm_H) :
  mm_r72_4 E cl (n + 1) a0 x1 x2 x3 o4 h =
  mm_gI h a0 4 4 fun v_1 =>
  (mm_br (v_1 ≤ x3) (
  mm_gR h a0 4 3 fun p_2 =>
    mm_rI E h p_2 (mm_i 0) fun v_3 =>
    some (.inl (some (.int v_3)), h)) (
  mm_gR h a0 4 2 fun p_4 =>
    mm_rI E h p_4 x3 fun v_5 =>
    (mm_br (v_5 = (mm_i 36)) (
    (mm_br (x2 ≤ (mm_i 0)) (
      mm_r72_52 E cl n a0 x1 x2 x3 v_5 h) (
      mm_gR h a0 4 3 fun p_6 =>
        mm_gR h a0 4 3 fun p_7 =>
        mm_rI E h p_7 (x2 - (mm_i 1)) fun v_8 =>
        mm_wI h p_6 (x2 - (mm_i 1)) ((mm_i 1) - v_8) fun h_9 =>
        mm_r72_4 E cl n a0 x1 x2 (x3 + (mm_i 1)) (some (.int v_5)) h_9))) (
    mm_r72_52 E cl n a0 x1 x2 x3 v_5 h)))) := rfl
set_option maxRecDepth 20000 in
set_option maxHeartbeats 4000000 in
theorem mm_e72_52 (E : mm_E) (cl : mm_F) (n : Nat) (a0 : Nat) (x1 : Int32) (x2 : Int32) (x3 : Int32) (x4 : Int32) (h : mm_H) :
  mm_r72_52 E cl (n + 1) a0 x1 x2 x3 x4 h =
  (mm_br (x4 < (mm_i 30)) (
  mm_r72_104 E cl n a0 x1 x2 x3 x4 h) (
  (mm_br ((mm_i 100) ≤ x4) (
    mm_r72_104 E cl n a0 x1 x2 x3 x4 h) (
    (mm_br (x2 ≤ (mm_i 1)) (
      mm_r72_104 E cl n a0 x1 x2 x3 x4 h) (
      mm_gR h a0 4 3 fun p_1 =>
        mm_gR h a0 4 3 fun p_2 =>
        mm_rI E h p_2 ((x2 + (mm_i (-1))) - (mm_i 1)) fun v_3 =>
        mm_gR h a0 4 3 fun p_4 =>
        mm_rI E h p_4 (x2 + (mm_i (-1))) fun v_5 =>
        mm_cI [] (cl 73 [.int x4, .int v_3, .int v_5] h) fun v_7 h_6 =>
        mm_wI h_6 p_1 ((x2 + (mm_i (-1))) - (mm_i 1)) v_7 fun h_8 =>
        mm_r72_4 E cl n a0 x1 (x2 + (mm_i (-1))) (x3 + (mm_i 1)) (some (.int x4)) h_8)))))) := rfl
set_option maxRecDepth 20000 in
set_option maxHeartbeats 4000000 in
theorem mm_e72_104 (E : mm_E) (cl : mm_F) (n : Nat) (a0 : Nat) (x1 : Int32) (x2 : Int32) (x3 : Int32) (x4 : Int32) (h : mm_H) :
  mm_r72_104 E cl (n + 1) a0 x1 x2 x3 x4 h =
  mm_gR h a0 4 3 fun p_1 =>
  mm_ln E h p_1 fun v_2 =>
  (mm_br (v_2 ≤ x2) (
  mm_r72_4 E cl n a0 x1 x2 (x3 + (mm_i 1)) (some (.int x4)) h) (
  mm_gR h a0 4 3 fun p_3 =>
    (mm_br (x4 < (mm_i 100)) (
    mm_cI [] (cl 74 [.ref a0, .int x1, .int x4] h) fun v_5 h_4 =>
      mm_wI h_4 p_3 x2 v_5 fun h_6 =>
      mm_r72_4 E cl n a0 x1 (x2 + (mm_i 1)) (x3 + (mm_i 1)) (some (.int x4)) h_6) (
    mm_wI h p_3 x2 (x4 - (mm_i 100)) fun h_7 =>
      mm_r72_4 E cl n a0 x1 (x2 + (mm_i 1)) (x3 + (mm_i 1)) (some (.int x4)) h_7)))) := rfl
