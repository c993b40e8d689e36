/-! EQUATIONS of the runs, part 7 (by program: wip/whole/genpure.py) -/
-- Law.days
def mm_r278_0 (E : mm_E) (cl : mm_F) (n : Nat) (a0 : Nat) (x1 : Int32) (x2 : Int32) (a3 : Nat) (h : mm_H) : mm_R := mm_run E cl mm_m278 n 0 [some (.ref a0), some (.int x1), some (.int x2), some (.ref a3), none] [] h
set_option maxRecDepth 20000 in
set_option maxHeartbeats 4000000 in
theorem mm_e278_0 (E : mm_E) (cl : mm_F) (n : Nat) (a0 : Nat) (x1 : Int32) (x2 : Int32) (a3 : Nat) (h : mm_H) :
  mm_r278_0 E cl (n + 1) a0 x1 x2 a3 h =
  mm_cI [(0, 1)] (cl 126 [.ref a0, .int x1, .int x2] h) fun v_2 h_1 =>
  mm_wJ h_1 a3 (mm_i 0) (Int32.toInt64 v_2) fun h_3 =>
  some (.inl (some (.int (mm_i 0))), h_3) := rfl
-- Law.ask
def mm_r279_0 (E : mm_E) (cl : mm_F) (n : Nat) (a0 : Nat) (x1 : Int32) (a2 : Nat) (h : mm_H) : mm_R := mm_run E cl mm_m279 n 0 [some (.ref a0), some (.int x1), some (.ref a2), none] [] h
set_option maxRecDepth 20000 in
set_option maxHeartbeats 4000000 in
theorem mm_e279_0 (E : mm_E) (cl : mm_F) (n : Nat) (a0 : Nat) (x1 : Int32) (a2 : Nat) (h : mm_H) :
  mm_r279_0 E cl (n + 1) a0 x1 a2 h =
  mm_cI [(1, 1)] (cl 127 [.ref a0, .int x1] h) fun v_2 h_1 =>
  mm_wJ h_1 a2 (mm_i 0) (Int32.toInt64 v_2) fun h_3 =>
  some (.inl (some (.int (mm_i 0))), h_3) := rfl
-- Law.chain
def mm_r280_0 (E : mm_E) (cl : mm_F) (n : Nat) (a0 : Nat) (x1 : Int32) (x2 : Int32) (a3 : Nat) (h : mm_H) : mm_R := mm_run E cl mm_m280 n 0 [some (.ref a0), some (.int x1), some (.int x2), some (.ref a3), none] [] h
set_option maxRecDepth 20000 in
set_option maxHeartbeats 4000000 in
theorem mm_e280_0 (E : mm_E) (cl : mm_F) (n : Nat) (a0 : Nat) (x1 : Int32) (x2 : Int32) (a3 : Nat) (h : mm_H) :
  mm_r280_0 E cl (n + 1) a0 x1 x2 a3 h =
  mm_cI [(0, 1)] (cl 128 [.ref a0, .int x1, .int x2] h) fun v_2 h_1 =>
  mm_wJ h_1 a3 (mm_i 0) (Int32.toInt64 v_2) fun h_3 =>
  some (.inl (some (.int (mm_i 0))), h_3) := rfl
-- Law.frontier
def mm_r281_0 (E : mm_E) (cl : mm_F) (n : Nat) (a0 : Nat) (x1 : Int32) (a2 : Nat) (h : mm_H) : mm_R := mm_run E cl mm_m281 n 0 [some (.ref a0), some (.int x1), some (.ref a2), none] [] h
set_option maxRecDepth 20000 in
set_option maxHeartbeats 4000000 in
theorem mm_e281_0 (E : mm_E) (cl : mm_F) (n : Nat) (a0 : Nat) (x1 : Int32) (a2 : Nat) (h : mm_H) :
  mm_r281_0 E cl (n + 1) a0 x1 a2 h =
  mm_cI [(0, 1)] (cl 129 [.ref a0, .int x1] h) fun v_2 h_1 =>
  mm_wJ h_1 a2 (mm_i 0) (Int32.toInt64 v_2) fun h_3 =>
  some (.inl (some (.int (mm_i 0))), h_3) := rfl
-- Law.law
def mm_r282_0 (E : mm_E) (cl : mm_F) (n : Nat) (a0 : Nat) (h : mm_H) : mm_R := mm_run E cl mm_m282 n 0 [some (.ref a0), none, none, none, none, none, none] [] h
def mm_r282_23 (E : mm_E) (cl : mm_F) (n : Nat) (a0 : Nat) (a1 : Nat) (a2 : Nat) (a3 : Nat) (x4 : Int32) (o5 : Option Value) (o6 : Option Value) (h : mm_H) : mm_R := mm_run E cl mm_m282 n 23 [some (.ref a0), some (.ref a1), some (.ref a2), some (.ref a3), some (.int x4), o5, o6] [] h
def mm_r282_176 (E : mm_E) (cl : mm_F) (n : Nat) (a0 : Nat) (a1 : Nat) (a2 : Nat) (a3 : Nat) (x4 : Int32) (o5 : Option Value) (o6 : Option Value) (h : mm_H) : mm_R := mm_run E cl mm_m282 n 176 [some (.ref a0), some (.ref a1), some (.ref a2), some (.ref a3), some (.int x4), o5, o6] [] h
def mm_r282_249 (E : mm_E) (cl : mm_F) (n : Nat) (a0 : Nat) (a1 : Nat) (a2 : Nat) (a3 : Nat) (x4 : Int32) (o5 : Option Value) (o6 : Option Value) (h : mm_H) : mm_R := mm_run E cl mm_m282 n 249 [some (.ref a0), some (.ref a1), some (.ref a2), some (.ref a3), some (.int x4), o5, o6] [] h
def mm_r282_305 (E : mm_E) (cl : mm_F) (n : Nat) (a0 : Nat) (a1 : Nat) (a2 : Nat) (a3 : Nat) (x4 : Int32) (o5 : Option Value) (o6 : Option Value) (h : mm_H) : mm_R := mm_run E cl mm_m282 n 305 [some (.ref a0), some (.ref a1), some (.ref a2), some (.ref a3), some (.int x4), o5, o6] [] h
def mm_r282_318 (E : mm_E) (cl : mm_F) (n : Nat) (a0 : Nat) (a1 : Nat) (a2 : Nat) (a3 : Nat) (x4 : Int32) (o5 : Option Value) (o6 : Option Value) (h : mm_H) : mm_R := mm_run E cl mm_m282 n 318 [some (.ref a0), some (.ref a1), some (.ref a2), some (.ref a3), some (.int x4), o5, o6] [] h
def mm_r282_374 (E : mm_E) (cl : mm_F) (n : Nat) (a0 : Nat) (a1 : Nat) (a2 : Nat) (a3 : Nat) (x4 : Int32) (o5 : Option Value) (o6 : Option Value) (h : mm_H) : mm_R := mm_run E cl mm_m282 n 374 [some (.ref a0), some (.ref a1), some (.ref a2), some (.ref a3), some (.int x4), o5, o6] [] h
def mm_r282_442 (E : mm_E) (cl : mm_F) (n : Nat) (a0 : Nat) (a1 : Nat) (a2 : Nat) (a3 : Nat) (x4 : Int32) (o5 : Option Value) (o6 : Option Value) (h : mm_H) : mm_R := mm_run E cl mm_m282 n 442 [some (.ref a0), some (.ref a1), some (.ref a2), some (.ref a3), some (.int x4), o5, o6] [] h
def mm_r282_510 (E : mm_E) (cl : mm_F) (n : Nat) (a0 : Nat) (a1 : Nat) (a2 : Nat) (a3 : Nat) (x4 : Int32) (o5 : Option Value) (o6 : Option Value) (h : mm_H) : mm_R := mm_run E cl mm_m282 n 510 [some (.ref a0), some (.ref a1), some (.ref a2), some (.ref a3), some (.int x4), o5, o6] [] h
def mm_r282_590 (E : mm_E) (cl : mm_F) (n : Nat) (a0 : Nat) (a1 : Nat) (a2 : Nat) (a3 : Nat) (x4 : Int32) (o5 : Option Value) (o6 : Option Value) (h : mm_H) : mm_R := mm_run E cl mm_m282 n 590 [some (.ref a0), some (.ref a1), some (.ref a2), some (.ref a3), some (.int x4), o5, o6] [] h
def mm_r282_670 (E : mm_E) (cl : mm_F) (n : Nat) (a0 : Nat) (a1 : Nat) (a2 : Nat) (a3 : Nat) (x4 : Int32) (o5 : Option Value) (o6 : Option Value) (h : mm_H) : mm_R := mm_run E cl mm_m282 n 670 [some (.ref a0), some (.ref a1), some (.ref a2), some (.ref a3), some (.int x4), o5, o6] [] h
def mm_r282_691 (E : mm_E) (cl : mm_F) (n : Nat) (a0 : Nat) (a1 : Nat) (a2 : Nat) (a3 : Nat) (x4 : Int32) (o5 : Option Value) (o6 : Option Value) (b0 : Nat) (s1 : Int32) (s2 : Int32) (h : mm_H) : mm_R := mm_run E cl mm_m282 n 691 [some (.ref a0), some (.ref a1), some (.ref a2), some (.ref a3), some (.int x4), o5, o6] [.int s2, .int s1, .ref b0] h
def mm_r282_747 (E : mm_E) (cl : mm_F) (n : Nat) (a0 : Nat) (a1 : Nat) (a2 : Nat) (a3 : Nat) (x4 : Int32) (o5 : Option Value) (o6 : Option Value) (h : mm_H) : mm_R := mm_run E cl mm_m282 n 747 [some (.ref a0), some (.ref a1), some (.ref a2), some (.ref a3), some (.int x4), o5, o6] [] h
def mm_r282_784 (E : mm_E) (cl : mm_F) (n : Nat) (a0 : Nat) (a1 : Nat) (a2 : Nat) (a3 : Nat) (x4 : Int32) (o5 : Option Value) (o6 : Option Value) (h : mm_H) : mm_R := mm_run E cl mm_m282 n 784 [some (.ref a0), some (.ref a1), some (.ref a2), some (.ref a3), some (.int x4), o5, o6] [] h
def mm_r282_852 (E : mm_E) (cl : mm_F) (n : Nat) (a0 : Nat) (a1 : Nat) (a2 : Nat) (a3 : Nat) (x4 : Int32) (o5 : Option Value) (o6 : Option Value) (h : mm_H) : mm_R := mm_run E cl mm_m282 n 852 [some (.ref a0), some (.ref a1), some (.ref a2), some (.ref a3), some (.int x4), o5, o6] [] h
def mm_r282_865 (E : mm_E) (cl : mm_F) (n : Nat) (a0 : Nat) (a1 : Nat) (a2 : Nat) (a3 : Nat) (x4 : Int32) (o5 : Option Value) (o6 : Option Value) (h : mm_H) : mm_R := mm_run E cl mm_m282 n 865 [some (.ref a0), some (.ref a1), some (.ref a2), some (.ref a3), some (.int x4), o5, o6] [] h
def mm_r282_890 (E : mm_E) (cl : mm_F) (n : Nat) (a0 : Nat) (a1 : Nat) (a2 : Nat) (a3 : Nat) (x4 : Int32) (o5 : Option Value) (o6 : Option Value) (h : mm_H) : mm_R := mm_run E cl mm_m282 n 890 [some (.ref a0), some (.ref a1), some (.ref a2), some (.ref a3), some (.int x4), o5, o6] [] h
def mm_r282_958 (E : mm_E) (cl : mm_F) (n : Nat) (a0 : Nat) (a1 : Nat) (a2 : Nat) (a3 : Nat) (x4 : Int32) (o5 : Option Value) (o6 : Option Value) (h : mm_H) : mm_R := mm_run E cl mm_m282 n 958 [some (.ref a0), some (.ref a1), some (.ref a2), some (.ref a3), some (.int x4), o5, o6] [] h
def mm_r282_1026 (E : mm_E) (cl : mm_F) (n : Nat) (a0 : Nat) (a1 : Nat) (a2 : Nat) (a3 : Nat) (x4 : Int32) (o5 : Option Value) (o6 : Option Value) (h : mm_H) : mm_R := mm_run E cl mm_m282 n 1026 [some (.ref a0), some (.ref a1), some (.ref a2), some (.ref a3), some (.int x4), o5, o6] [] h
def mm_r282_1082 (E : mm_E) (cl : mm_F) (n : Nat) (a0 : Nat) (a1 : Nat) (a2 : Nat) (a3 : Nat) (x4 : Int32) (o5 : Option Value) (o6 : Option Value) (h : mm_H) : mm_R := mm_run E cl mm_m282 n 1082 [some (.ref a0), some (.ref a1), some (.ref a2), some (.ref a3), some (.int x4), o5, o6] [] h
def mm_r282_1095 (E : mm_E) (cl : mm_F) (n : Nat) (a0 : Nat) (a1 : Nat) (a2 : Nat) (a3 : Nat) (x4 : Int32) (o5 : Option Value) (o6 : Option Value) (h : mm_H) : mm_R := mm_run E cl mm_m282 n 1095 [some (.ref a0), some (.ref a1), some (.ref a2), some (.ref a3), some (.int x4), o5, o6] [] h
def mm_r282_1163 (E : mm_E) (cl : mm_F) (n : Nat) (a0 : Nat) (a1 : Nat) (a2 : Nat) (a3 : Nat) (x4 : Int32) (o5 : Option Value) (o6 : Option Value) (h : mm_H) : mm_R := mm_run E cl mm_m282 n 1163 [some (.ref a0), some (.ref a1), some (.ref a2), some (.ref a3), some (.int x4), o5, o6] [] h
def mm_r282_1219 (E : mm_E) (cl : mm_F) (n : Nat) (a0 : Nat) (a1 : Nat) (a2 : Nat) (a3 : Nat) (x4 : Int32) (o5 : Option Value) (o6 : Option Value) (h : mm_H) : mm_R := mm_run E cl mm_m282 n 1219 [some (.ref a0), some (.ref a1), some (.ref a2), some (.ref a3), some (.int x4), o5, o6] [] h
def mm_r282_1244 (E : mm_E) (cl : mm_F) (n : Nat) (a0 : Nat) (a1 : Nat) (a2 : Nat) (a3 : Nat) (x4 : Int32) (o5 : Option Value) (o6 : Option Value) (h : mm_H) : mm_R := mm_run E cl mm_m282 n 1244 [some (.ref a0), some (.ref a1), some (.ref a2), some (.ref a3), some (.int x4), o5, o6] [] h
def mm_r282_1312 (E : mm_E) (cl : mm_F) (n : Nat) (a0 : Nat) (a1 : Nat) (a2 : Nat) (a3 : Nat) (x4 : Int32) (o5 : Option Value) (o6 : Option Value) (h : mm_H) : mm_R := mm_run E cl mm_m282 n 1312 [some (.ref a0), some (.ref a1), some (.ref a2), some (.ref a3), some (.int x4), o5, o6] [] h
def mm_r282_1392 (E : mm_E) (cl : mm_F) (n : Nat) (a0 : Nat) (a1 : Nat) (a2 : Nat) (a3 : Nat) (x4 : Int32) (o5 : Option Value) (o6 : Option Value) (h : mm_H) : mm_R := mm_run E cl mm_m282 n 1392 [some (.ref a0), some (.ref a1), some (.ref a2), some (.ref a3), some (.int x4), o5, o6] [] h
def mm_r282_1460 (E : mm_E) (cl : mm_F) (n : Nat) (a0 : Nat) (a1 : Nat) (a2 : Nat) (a3 : Nat) (x4 : Int32) (o5 : Option Value) (o6 : Option Value) (h : mm_H) : mm_R := mm_run E cl mm_m282 n 1460 [some (.ref a0), some (.ref a1), some (.ref a2), some (.ref a3), some (.int x4), o5, o6] [] h
def mm_r282_1540 (E : mm_E) (cl : mm_F) (n : Nat) (a0 : Nat) (a1 : Nat) (a2 : Nat) (a3 : Nat) (x4 : Int32) (o5 : Option Value) (o6 : Option Value) (h : mm_H) : mm_R := mm_run E cl mm_m282 n 1540 [some (.ref a0), some (.ref a1), some (.ref a2), some (.ref a3), some (.int x4), o5, o6] [] h
def mm_r282_1608 (E : mm_E) (cl : mm_F) (n : Nat) (a0 : Nat) (a1 : Nat) (a2 : Nat) (a3 : Nat) (x4 : Int32) (o5 : Option Value) (o6 : Option Value) (h : mm_H) : mm_R := mm_run E cl mm_m282 n 1608 [some (.ref a0), some (.ref a1), some (.ref a2), some (.ref a3), some (.int x4), o5, o6] [] h
def mm_r282_1664 (E : mm_E) (cl : mm_F) (n : Nat) (a0 : Nat) (a1 : Nat) (a2 : Nat) (a3 : Nat) (x4 : Int32) (o5 : Option Value) (o6 : Option Value) (h : mm_H) : mm_R := mm_run E cl mm_m282 n 1664 [some (.ref a0), some (.ref a1), some (.ref a2), some (.ref a3), some (.int x4), o5, o6] [] h
def mm_r282_1732 (E : mm_E) (cl : mm_F) (n : Nat) (a0 : Nat) (a1 : Nat) (a2 : Nat) (a3 : Nat) (x4 : Int32) (o5 : Option Value) (o6 : Option Value) (h : mm_H) : mm_R := mm_run E cl mm_m282 n 1732 [some (.ref a0), some (.ref a1), some (.ref a2), some (.ref a3), some (.int x4), o5, o6] [] h
def mm_r282_1788 (E : mm_E) (cl : mm_F) (n : Nat) (a0 : Nat) (a1 : Nat) (a2 : Nat) (a3 : Nat) (x4 : Int32) (o5 : Option Value) (o6 : Option Value) (h : mm_H) : mm_R := mm_run E cl mm_m282 n 1788 [some (.ref a0), some (.ref a1), some (.ref a2), some (.ref a3), some (.int x4), o5, o6] [] h
def mm_r282_1799 (E : mm_E) (cl : mm_F) (n : Nat) (a0 : Nat) (a1 : Nat) (a2 : Nat) (a3 : Nat) (x4 : Int32) (o5 : Option Value) (o6 : Option Value) (h : mm_H) : mm_R := mm_run E cl mm_m282 n 1799 [some (.ref a0), some (.ref a1), some (.ref a2), some (.ref a3), some (.int x4), o5, o6] [] h
def mm_r282_1812 (E : mm_E) (cl : mm_F) (n : Nat) (a0 : Nat) (a1 : Nat) (a2 : Nat) (a3 : Nat) (x4 : Int32) (o5 : Option Value) (o6 : Option Value) (h : mm_H) : mm_R := mm_run E cl mm_m282 n 1812 [some (.ref a0), some (.ref a1), some (.ref a2), some (.ref a3), some (.int x4), o5, o6] [] h
set_option maxRecDepth 20000 in
set_option maxHeartbeats 4000000 in
theorem mm_e282_0 (E : mm_E) (cl : mm_F) (n : Nat) (a0 : Nat) (h : mm_H) :
  mm_r282_0 E cl (n + 1) a0 h =
  mm_al h (.inl (8, mm_new.getD 8 [])) (mm_new.getD 8 []).length fun p_1 h_2 =>
  mm_cV [] (cl 101 [.ref p_1] h_2) fun h_3 =>
  mm_al h_3 (.inl (9, mm_new.getD 9 [])) (mm_new.getD 9 []).length fun p_4 h_5 =>
  mm_cV [] (cl 148 [.ref p_4] h_5) fun h_6 =>
  mm_nn (mm_i 1) fun k_9 => mm_al h_6 (.inr (.inr (.inl (k_9, fun _ => 0)))) k_9 fun p_7 h_8 =>
  mm_r282_23 E cl n a0 p_1 p_4 p_7 (mm_i 0) none none h_8 := rfl
set_option maxRecDepth 20000 in
set_option maxHeartbeats 4000000 in
theorem mm_e282_23 (E : mm_E) (cl : mm_F) (n : Nat) (a0 : Nat) (a1 : Nat) (a2 : Nat) (a3 : Nat) (x4 : Int32) (o5 : Option Value) (o6 : Option Value) (h : mm_H) :
  mm_r282_23 E cl (n + 1) a0 a1 a2 a3 x4 o5 o6 h =
  mm_ln E h a0 fun v_1 =>
  (mm_br ((v_1 - (mm_i 6)) < x4) (
  (mm_bz (mm_i 1) (some (.inl (some (.int (mm_i 1))), h)))) (
  mm_rI E h a0 x4 fun v_2 =>
    (mm_br ((v_2 &&& (mm_i 31)) = (mm_i 0)) (
    mm_r282_176 E cl n a0 a1 a2 a3 x4 o5 o6 h) (
    (mm_br ((v_2 &&& (mm_i 31)) = (mm_i 1)) (
    mm_r282_249 E cl n a0 a1 a2 a3 x4 o5 o6 h) (
    (mm_br ((v_2 &&& (mm_i 31)) = (mm_i 2)) (
    mm_r282_305 E cl n a0 a1 a2 a3 x4 o5 o6 h) (
    (mm_br ((v_2 &&& (mm_i 31)) = (mm_i 3)) (
    mm_r282_318 E cl n a0 a1 a2 a3 x4 o5 o6 h) (
    (mm_br ((v_2 &&& (mm_i 31)) = (mm_i 4)) (
    mm_r282_374 E cl n a0 a1 a2 a3 x4 o5 o6 h) (
    (mm_br ((v_2 &&& (mm_i 31)) = (mm_i 5)) (
    mm_r282_442 E cl n a0 a1 a2 a3 x4 o5 o6 h) (
    (mm_br ((v_2 &&& (mm_i 31)) = (mm_i 6)) (
    mm_r282_510 E cl n a0 a1 a2 a3 x4 o5 o6 h) (
    (mm_br ((v_2 &&& (mm_i 31)) = (mm_i 7)) (
    mm_r282_590 E cl n a0 a1 a2 a3 x4 o5 o6 h) (
    (mm_br ((v_2 &&& (mm_i 31)) = (mm_i 8)) (
    mm_r282_670 E cl n a0 a1 a2 a3 x4 o5 o6 h) (
    (mm_br ((v_2 &&& (mm_i 31)) = (mm_i 9)) (
    mm_r282_747 E cl n a0 a1 a2 a3 x4 o5 o6 h) (
    (mm_br ((v_2 &&& (mm_i 31)) = (mm_i 10)) (
    mm_r282_784 E cl n a0 a1 a2 a3 x4 o5 o6 h) (
    (mm_br ((v_2 &&& (mm_i 31)) = (mm_i 11)) (
    mm_r282_852 E cl n a0 a1 a2 a3 x4 o5 o6 h) (
    (mm_br ((v_2 &&& (mm_i 31)) = (mm_i 12)) (
    mm_r282_865 E cl n a0 a1 a2 a3 x4 o5 o6 h) (
    (mm_br ((v_2 &&& (mm_i 31)) = (mm_i 13)) (
    mm_r282_890 E cl n a0 a1 a2 a3 x4 o5 o6 h) (
    (mm_br ((v_2 &&& (mm_i 31)) = (mm_i 14)) (
    mm_r282_958 E cl n a0 a1 a2 a3 x4 o5 o6 h) (
    (mm_br ((v_2 &&& (mm_i 31)) = (mm_i 15)) (
    mm_r282_1026 E cl n a0 a1 a2 a3 x4 o5 o6 h) (
    (mm_br ((v_2 &&& (mm_i 31)) = (mm_i 16)) (
    mm_r282_1082 E cl n a0 a1 a2 a3 x4 o5 o6 h) (
    (mm_br ((v_2 &&& (mm_i 31)) = (mm_i 17)) (
    mm_r282_1095 E cl n a0 a1 a2 a3 x4 o5 o6 h) (
    (mm_br ((v_2 &&& (mm_i 31)) = (mm_i 18)) (
    mm_r282_1163 E cl n a0 a1 a2 a3 x4 o5 o6 h) (
    (mm_br ((v_2 &&& (mm_i 31)) = (mm_i 19)) (
    mm_r282_1219 E cl n a0 a1 a2 a3 x4 o5 o6 h) (
    (mm_br ((v_2 &&& (mm_i 31)) = (mm_i 20)) (
    mm_r282_1244 E cl n a0 a1 a2 a3 x4 o5 o6 h) (
    (mm_br ((v_2 &&& (mm_i 31)) = (mm_i 21)) (
    mm_r282_1312 E cl n a0 a1 a2 a3 x4 o5 o6 h) (
    (mm_br ((v_2 &&& (mm_i 31)) = (mm_i 22)) (
    mm_r282_1392 E cl n a0 a1 a2 a3 x4 o5 o6 h) (
    (mm_br ((v_2 &&& (mm_i 31)) = (mm_i 23)) (
    mm_r282_1460 E cl n a0 a1 a2 a3 x4 o5 o6 h) (
    (mm_br ((v_2 &&& (mm_i 31)) = (mm_i 24)) (
    mm_r282_1540 E cl n a0 a1 a2 a3 x4 o5 o6 h) (
    (mm_br ((v_2 &&& (mm_i 31)) = (mm_i 25)) (
    mm_r282_1608 E cl n a0 a1 a2 a3 x4 o5 o6 h) (
    (mm_br ((v_2 &&& (mm_i 31)) = (mm_i 26)) (
    mm_r282_1664 E cl n a0 a1 a2 a3 x4 o5 o6 h) (
    (mm_br ((v_2 &&& (mm_i 31)) = (mm_i 27)) (
    mm_r282_1732 E cl n a0 a1 a2 a3 x4 o5 o6 h) (
    (mm_br ((v_2 &&& (mm_i 31)) = (mm_i 28)) (
    mm_r282_1788 E cl n a0 a1 a2 a3 x4 o5 o6 h) (
    (mm_br ((v_2 &&& (mm_i 31)) = (mm_i 29)) (
    mm_r282_1799 E cl n a0 a1 a2 a3 x4 o5 o6 h) (
    mm_r282_1812 E cl n a0 a1 a2 a3 x4 o5 o6 h)))))))))))))))))))))))))))))))))))))))))))))))))))))))))))))) := rfl
set_option maxRecDepth 20000 in
set_option maxHeartbeats 4000000 in
theorem mm_e282_176 (E : mm_E) (cl : mm_F) (n : Nat) (a0 : Nat) (a1 : Nat) (a2 : Nat) (a3 : Nat) (x4 : Int32) (o5 : Option Value) (o6 : Option Value) (h : mm_H) :
  mm_r282_176 E cl (n + 1) a0 a1 a2 a3 x4 o5 o6 h =
  mm_rI E h a0 (x4 + (mm_i 1)) fun v_1 =>
  mm_rI E h a0 (x4 + (mm_i 2)) fun v_2 =>
  mm_rI E h a0 (x4 + (mm_i 3)) fun v_3 =>
  mm_rI E h a0 (x4 + (mm_i 4)) fun v_4 =>
  mm_rI E h a0 (x4 + (mm_i 5)) fun v_5 =>
  mm_cI [] (cl 102 [.ref a1, .int v_1, .int v_2, .int v_3, .int v_4, .int v_5] h) fun v_7 h_6 =>
  mm_rI E h_6 a0 (x4 + (mm_i 1)) fun v_8 =>
  mm_rI E h_6 a0 (x4 + (mm_i 2)) fun v_9 =>
  mm_rI E h_6 a0 (x4 + (mm_i 3)) fun v_10 =>
  mm_rI E h_6 a0 (x4 + (mm_i 4)) fun v_11 =>
  mm_rI E h_6 a0 (x4 + (mm_i 5)) fun v_12 =>
  mm_cI [] (cl 228 [.ref a2, .int v_8, .int v_9, .int v_10, .int v_11, .int v_12] h_6) fun v_14 h_13 =>
  (mm_br (v_7 = v_14) (
  mm_r282_1812 E cl n a0 a1 a2 a3 x4 o5 o6 h_13) (
  (mm_bz (mm_i 0) (some (.inl (some (.int (mm_i 0))), h_13))))) := rfl
set_option maxRecDepth 20000 in
set_option maxHeartbeats 4000000 in
theorem mm_e282_249 (E : mm_E) (cl : mm_F) (n : Nat) (a0 : Nat) (a1 : Nat) (a2 : Nat) (a3 : Nat) (x4 : Int32) (o5 : Option Value) (o6 : Option Value) (h : mm_H) :
  mm_r282_249 E cl (n + 1) a0 a1 a2 a3 x4 o5 o6 h =
  mm_rI E h a0 (x4 + (mm_i 1)) fun v_1 =>
  mm_cI [] (cl 262 [.ref a1, .int v_1, .ref a3] h) fun v_3 h_2 =>
  mm_rI E h_2 a0 (x4 + (mm_i 1)) fun v_4 =>
  mm_cI [] (cl 248 [.ref a2, .int v_4] h_2) fun v_6 h_5 =>
  mm_cI [] (cl 145 [.ref a2] h_5) fun v_8 h_7 =>
  (mm_br (v_8 = v_3) (
  (mm_br (v_3 = (mm_i 0)) (
    mm_rJ h_7 a3 (mm_i 0) fun w_9 =>
      (mm_br ((lg_cmp w_9 (Int32.toInt64 v_6)) = (mm_i 0)) (
      mm_r282_1812 E cl n a0 a1 a2 a3 x4 (some (.int v_3)) (some (.int v_6)) h_7) (
      (mm_bz (mm_i 0) (some (.inl (some (.int (mm_i 0))), h_7)))))) (
    mm_r282_1812 E cl n a0 a1 a2 a3 x4 (some (.int v_3)) (some (.int v_6)) h_7))) (
  (mm_bz (mm_i 0) (some (.inl (some (.int (mm_i 0))), h_7))))) := rfl
set_option maxRecDepth 20000 in
set_option maxHeartbeats 4000000 in
theorem mm_e282_305 (E : mm_E) (cl : mm_F) (n : Nat) (a0 : Nat) (a1 : Nat) (a2 : Nat) (a3 : Nat) (x4 : Int32) (o5 : Option Value) (o6 : Option Value) (h : mm_H) :
  mm_r282_305 E cl (n + 1) a0 a1 a2 a3 x4 o5 o6 h =
  mm_cI [] (cl 104 [.ref a1] h) fun v_2 h_1 =>
  mm_cI [] (cl 241 [.ref a2] h_1) fun v_4 h_3 =>
  (mm_br (v_2 = v_4) (
  mm_r282_1812 E cl n a0 a1 a2 a3 x4 o5 o6 h_3) (
  (mm_bz (mm_i 0) (some (.inl (some (.int (mm_i 0))), h_3))))) := rfl
set_option maxRecDepth 20000 in
set_option maxHeartbeats 4000000 in
theorem mm_e282_318 (E : mm_E) (cl : mm_F) (n : Nat) (a0 : Nat) (a1 : Nat) (a2 : Nat) (a3 : Nat) (x4 : Int32) (o5 : Option Value) (o6 : Option Value) (h : mm_H) :
  mm_r282_318 E cl (n + 1) a0 a1 a2 a3 x4 o5 o6 h =
  mm_rI E h a0 (x4 + (mm_i 1)) fun v_1 =>
  mm_cI [] (cl 263 [.ref a1, .int v_1, .ref a3] h) fun v_3 h_2 =>
  mm_rI E h_2 a0 (x4 + (mm_i 1)) fun v_4 =>
  mm_cI [] (cl 168 [.ref a2, .int v_4] h_2) fun v_6 h_5 =>
  mm_cI [] (cl 145 [.ref a2] h_5) fun v_8 h_7 =>
  (mm_br (v_8 = v_3) (
  (mm_br (v_3 = (mm_i 0)) (
    mm_rJ h_7 a3 (mm_i 0) fun w_9 =>
      (mm_br ((lg_cmp w_9 (Int32.toInt64 v_6)) = (mm_i 0)) (
      mm_r282_1812 E cl n a0 a1 a2 a3 x4 (some (.int v_3)) (some (.int v_6)) h_7) (
      (mm_bz (mm_i 0) (some (.inl (some (.int (mm_i 0))), h_7)))))) (
    mm_r282_1812 E cl n a0 a1 a2 a3 x4 (some (.int v_3)) (some (.int v_6)) h_7))) (
  (mm_bz (mm_i 0) (some (.inl (some (.int (mm_i 0))), h_7))))) := rfl
set_option maxRecDepth 20000 in
set_option maxHeartbeats 4000000 in
theorem mm_e282_374 (E : mm_E) (cl : mm_F) (n : Nat) (a0 : Nat) (a1 : Nat) (a2 : Nat) (a3 : Nat) (x4 : Int32) (o5 : Option Value) (o6 : Option Value) (h : mm_H) :
  mm_r282_374 E cl (n + 1) a0 a1 a2 a3 x4 o5 o6 h =
  mm_rI E h a0 (x4 + (mm_i 1)) fun v_1 =>
  mm_rI E h a0 (x4 + (mm_i 2)) fun v_2 =>
  mm_cI [] (cl 264 [.ref a1, .int v_1, .int v_2, .ref a3] h) fun v_4 h_3 =>
  mm_rI E h_3 a0 (x4 + (mm_i 1)) fun v_5 =>
  mm_rI E h_3 a0 (x4 + (mm_i 2)) fun v_6 =>
  mm_cI [] (cl 169 [.ref a2, .int v_5, .int v_6] h_3) fun v_8 h_7 =>
  mm_cI [] (cl 145 [.ref a2] h_7) fun v_10 h_9 =>
  (mm_br (v_10 = v_4) (
  (mm_br (v_4 = (mm_i 0)) (
    mm_rJ h_9 a3 (mm_i 0) fun w_11 =>
      (mm_br ((lg_cmp w_11 (Int32.toInt64 v_8)) = (mm_i 0)) (
      mm_r282_1812 E cl n a0 a1 a2 a3 x4 (some (.int v_4)) (some (.int v_8)) h_9) (
      (mm_bz (mm_i 0) (some (.inl (some (.int (mm_i 0))), h_9)))))) (
    mm_r282_1812 E cl n a0 a1 a2 a3 x4 (some (.int v_4)) (some (.int v_8)) h_9))) (
  (mm_bz (mm_i 0) (some (.inl (some (.int (mm_i 0))), h_9))))) := rfl
set_option maxRecDepth 20000 in
set_option maxHeartbeats 4000000 in
theorem mm_e282_442 (E : mm_E) (cl : mm_F) (n : Nat) (a0 : Nat) (a1 : Nat) (a2 : Nat) (a3 : Nat) (x4 : Int32) (o5 : Option Value) (o6 : Option Value) (h : mm_H) :
  mm_r282_442 E cl (n + 1) a0 a1 a2 a3 x4 o5 o6 h =
  mm_rI E h a0 (x4 + (mm_i 1)) fun v_1 =>
  mm_rI E h a0 (x4 + (mm_i 2)) fun v_2 =>
  mm_cI [] (cl 265 [.ref a1, .int v_1, .int v_2, .ref a3] h) fun v_4 h_3 =>
  mm_rI E h_3 a0 (x4 + (mm_i 1)) fun v_5 =>
  mm_rI E h_3 a0 (x4 + (mm_i 2)) fun v_6 =>
  mm_cI [] (cl 170 [.ref a2, .int v_5, .int v_6] h_3) fun v_8 h_7 =>
  mm_cI [] (cl 145 [.ref a2] h_7) fun v_10 h_9 =>
  (mm_br (v_10 = v_4) (
  (mm_br (v_4 = (mm_i 0)) (
    mm_rJ h_9 a3 (mm_i 0) fun w_11 =>
      (mm_br ((lg_cmp w_11 (Int32.toInt64 v_8)) = (mm_i 0)) (
      mm_r282_1812 E cl n a0 a1 a2 a3 x4 (some (.int v_4)) (some (.int v_8)) h_9) (
      (mm_bz (mm_i 0) (some (.inl (some (.int (mm_i 0))), h_9)))))) (
    mm_r282_1812 E cl n a0 a1 a2 a3 x4 (some (.int v_4)) (some (.int v_8)) h_9))) (
  (mm_bz (mm_i 0) (some (.inl (some (.int (mm_i 0))), h_9))))) := rfl
set_option maxRecDepth 20000 in
set_option maxHeartbeats 4000000 in
theorem mm_e282_510 (E : mm_E) (cl : mm_F) (n : Nat) (a0 : Nat) (a1 : Nat) (a2 : Nat) (a3 : Nat) (x4 : Int32) (o5 : Option Value) (o6 : Option Value) (h : mm_H) :
  mm_r282_510 E cl (n + 1) a0 a1 a2 a3 x4 o5 o6 h =
  mm_rI E h a0 (x4 + (mm_i 1)) fun v_1 =>
  mm_rI E h a0 (x4 + (mm_i 2)) fun v_2 =>
  mm_rI E h a0 (x4 + (mm_i 3)) fun v_3 =>
  mm_cI [] (cl 266 [.ref a1, .int v_1, .int v_2, .int v_3, .ref a3] h) fun v_5 h_4 =>
  mm_rI E h_4 a0 (x4 + (mm_i 1)) fun v_6 =>
  mm_rI E h_4 a0 (x4 + (mm_i 2)) fun v_7 =>
  mm_rI E h_4 a0 (x4 + (mm_i 3)) fun v_8 =>
  mm_cI [] (cl 167 [.ref a2, .int v_6, .int v_7, .int v_8] h_4) fun v_10 h_9 =>
  mm_cI [] (cl 145 [.ref a2] h_9) fun v_12 h_11 =>
  (mm_br (v_12 = v_5) (
  (mm_br (v_5 = (mm_i 0)) (
    mm_rJ h_11 a3 (mm_i 0) fun w_13 =>
      (mm_br ((lg_cmp w_13 (Int32.toInt64 v_10)) = (mm_i 0)) (
      mm_r282_1812 E cl n a0 a1 a2 a3 x4 (some (.int v_5)) (some (.int v_10)) h_11) (
      (mm_bz (mm_i 0) (some (.inl (some (.int (mm_i 0))), h_11)))))) (
    mm_r282_1812 E cl n a0 a1 a2 a3 x4 (some (.int v_5)) (some (.int v_10)) h_11))) (
  (mm_bz (mm_i 0) (some (.inl (some (.int (mm_i 0))), h_11))))) := rfl
set_option maxRecDepth 20000 in
set_option maxHeartbeats 4000000 in
theorem mm_e282_590 (E : mm_E) (cl : mm_F) (n : Nat) (a0 : Nat) (a1 : Nat) (a2 : Nat) (a3 : Nat) (x4 : Int32) (o5 : Option Value) (o6 : Option Value) (h : mm_H) :
  mm_r282_590 E cl (n + 1) a0 a1 a2 a3 x4 o5 o6 h =
  mm_rI E h a0 (x4 + (mm_i 1)) fun v_1 =>
  mm_rI E h a0 (x4 + (mm_i 2)) fun v_2 =>
  mm_rI E h a0 (x4 + (mm_i 3)) fun v_3 =>
  mm_cI [] (cl 267 [.ref a1, .int v_1, .int v_2, .int v_3, .ref a3] h) fun v_5 h_4 =>
  mm_rI E h_4 a0 (x4 + (mm_i 1)) fun v_6 =>
  mm_rI E h_4 a0 (x4 + (mm_i 2)) fun v_7 =>
  mm_rI E h_4 a0 (x4 + (mm_i 3)) fun v_8 =>
  mm_cI [] (cl 173 [.ref a2, .int v_6, .int v_7, .int v_8] h_4) fun v_10 h_9 =>
  mm_cI [] (cl 145 [.ref a2] h_9) fun v_12 h_11 =>
  (mm_br (v_12 = v_5) (
  (mm_br (v_5 = (mm_i 0)) (
    mm_rJ h_11 a3 (mm_i 0) fun w_13 =>
      (mm_br ((lg_cmp w_13 (Int32.toInt64 v_10)) = (mm_i 0)) (
      mm_r282_1812 E cl n a0 a1 a2 a3 x4 (some (.int v_5)) (some (.int v_10)) h_11) (
      (mm_bz (mm_i 0) (some (.inl (some (.int (mm_i 0))), h_11)))))) (
    mm_r282_1812 E cl n a0 a1 a2 a3 x4 (some (.int v_5)) (some (.int v_10)) h_11))) (
  (mm_bz (mm_i 0) (some (.inl (some (.int (mm_i 0))), h_11))))) := rfl
set_option maxRecDepth 20000 in
set_option maxHeartbeats 4000000 in
theorem mm_e282_670 (E : mm_E) (cl : mm_F) (n : Nat) (a0 : Nat) (a1 : Nat) (a2 : Nat) (a3 : Nat) (x4 : Int32) (o5 : Option Value) (o6 : Option Value) (h : mm_H) :
  mm_r282_670 E cl (n + 1) a0 a1 a2 a3 x4 o5 o6 h =
  mm_rI E h a0 (x4 + (mm_i 1)) fun v_1 =>
  mm_rI E h a0 (x4 + (mm_i 2)) fun v_2 =>
  (mm_br (v_2 = (mm_i 0)) (
  mm_r282_691 E cl n a0 a1 a2 a3 x4 o5 o6 a1 v_1 (mm_i 0) h) (
  mm_r282_691 E cl n a0 a1 a2 a3 x4 o5 o6 a1 v_1 (mm_i 1) h)) := rfl
set_option maxRecDepth 20000 in
set_option maxHeartbeats 4000000 in
theorem mm_e282_691 (E : mm_E) (cl : mm_F) (n : Nat) (a0 : Nat) (a1 : Nat) (a2 : Nat) (a3 : Nat) (x4 : Int32) (o5 : Option Value) (o6 : Option Value) (b0 : Nat) (s1 : Int32) (s2 : Int32) (h : mm_H) :
  mm_r282_691 E cl (n + 1) a0 a1 a2 a3 x4 o5 o6 b0 s1 s2 h =
  mm_rI E h a0 (x4 + (mm_i 3)) fun v_1 =>
  mm_rI E h a0 (x4 + (mm_i 4)) fun v_2 =>
  mm_cI [] (cl 110 [.ref b0, .int s1, .int s2, .int v_1, .int v_2] h) fun v_4 h_3 =>
  mm_rI E h_3 a0 (x4 + (mm_i 1)) fun v_5 =>
  mm_rI E h_3 a0 (x4 + (mm_i 2)) fun v_6 =>
  (mm_br (v_6 = (mm_i 0)) (
  mm_rI E h_3 a0 (x4 + (mm_i 3)) fun v_7 =>
    mm_rI E h_3 a0 (x4 + (mm_i 4)) fun v_8 =>
    mm_cI [] (cl 174 [.ref a2, .int v_5, .int (mm_i 0), .int v_7, .int v_8] h_3) fun v_10 h_9 =>
    (mm_br (v_4 = v_10) (
    mm_r282_1812 E cl n a0 a1 a2 a3 x4 o5 o6 h_9) (
    (mm_bz (mm_i 0) (some (.inl (some (.int (mm_i 0))), h_9)))))) (
  mm_rI E h_3 a0 (x4 + (mm_i 3)) fun v_11 =>
    mm_rI E h_3 a0 (x4 + (mm_i 4)) fun v_12 =>
    mm_cI [] (cl 174 [.ref a2, .int v_5, .int (mm_i 1), .int v_11, .int v_12] h_3) fun v_14 h_13 =>
    (mm_br (v_4 = v_14) (
    mm_r282_1812 E cl n a0 a1 a2 a3 x4 o5 o6 h_13) (
    (mm_bz (mm_i 0) (some (.inl (some (.int (mm_i 0))), h_13))))))) := rfl
set_option maxRecDepth 20000 in
set_option maxHeartbeats 4000000 in
theorem mm_e282_747 (E : mm_E) (cl : mm_F) (n : Nat) (a0 : Nat) (a1 : Nat) (a2 : Nat) (a3 : Nat) (x4 : Int32) (o5 : Option Value) (o6 : Option Value) (h : mm_H) :
  mm_r282_747 E cl (n + 1) a0 a1 a2 a3 x4 o5 o6 h =
  mm_rI E h a0 (x4 + (mm_i 1)) fun v_1 =>
  mm_rI E h a0 (x4 + (mm_i 2)) fun v_2 =>
  mm_cI [] (cl 111 [.ref a1, .int v_1, .int v_2] h) fun v_4 h_3 =>
  mm_rI E h_3 a0 (x4 + (mm_i 1)) fun v_5 =>
  mm_rI E h_3 a0 (x4 + (mm_i 2)) fun v_6 =>
  mm_cI [] (cl 175 [.ref a2, .int v_5, .int v_6] h_3) fun v_8 h_7 =>
  (mm_br (v_4 = v_8) (
  mm_r282_1812 E cl n a0 a1 a2 a3 x4 o5 o6 h_7) (
  (mm_bz (mm_i 0) (some (.inl (some (.int (mm_i 0))), h_7))))) := rfl
set_option maxRecDepth 20000 in
set_option maxHeartbeats 4000000 in
theorem mm_e282_784 (E : mm_E) (cl : mm_F) (n : Nat) (a0 : Nat) (a1 : Nat) (a2 : Nat) (a3 : Nat) (x4 : Int32) (o5 : Option Value) (o6 : Option Value) (h : mm_H) :
  mm_r282_784 E cl (n + 1) a0 a1 a2 a3 x4 o5 o6 h =
  mm_rI E h a0 (x4 + (mm_i 1)) fun v_1 =>
  mm_rI E h a0 (x4 + (mm_i 2)) fun v_2 =>
  mm_cI [] (cl 268 [.ref a1, .int v_1, .int v_2, .ref a3] h) fun v_4 h_3 =>
  mm_rI E h_3 a0 (x4 + (mm_i 1)) fun v_5 =>
  mm_rI E h_3 a0 (x4 + (mm_i 2)) fun v_6 =>
  mm_cI [] (cl 176 [.ref a2, .int v_5, .int v_6] h_3) fun v_8 h_7 =>
  mm_cI [] (cl 145 [.ref a2] h_7) fun v_10 h_9 =>
  (mm_br (v_10 = v_4) (
  (mm_br (v_4 = (mm_i 0)) (
    mm_rJ h_9 a3 (mm_i 0) fun w_11 =>
      (mm_br ((lg_cmp w_11 (Int32.toInt64 v_8)) = (mm_i 0)) (
      mm_r282_1812 E cl n a0 a1 a2 a3 x4 (some (.int v_4)) (some (.int v_8)) h_9) (
      (mm_bz (mm_i 0) (some (.inl (some (.int (mm_i 0))), h_9)))))) (
    mm_r282_1812 E cl n a0 a1 a2 a3 x4 (some (.int v_4)) (some (.int v_8)) h_9))) (
  (mm_bz (mm_i 0) (some (.inl (some (.int (mm_i 0))), h_9))))) := rfl
set_option maxRecDepth 20000 in
set_option maxHeartbeats 4000000 in
theorem mm_e282_852 (E : mm_E) (cl : mm_F) (n : Nat) (a0 : Nat) (a1 : Nat) (a2 : Nat) (a3 : Nat) (x4 : Int32) (o5 : Option Value) (o6 : Option Value) (h : mm_H) :
  mm_r282_852 E cl (n + 1) a0 a1 a2 a3 x4 o5 o6 h =
  mm_cI [] (cl 113 [.ref a1] h) fun v_2 h_1 =>
  mm_cI [] (cl 178 [.ref a2] h_1) fun v_4 h_3 =>
  (mm_br (v_2 = v_4) (
  mm_r282_1812 E cl n a0 a1 a2 a3 x4 o5 o6 h_3) (
  (mm_bz (mm_i 0) (some (.inl (some (.int (mm_i 0))), h_3))))) := rfl
set_option maxRecDepth 20000 in
set_option maxHeartbeats 4000000 in
theorem mm_e282_865 (E : mm_E) (cl : mm_F) (n : Nat) (a0 : Nat) (a1 : Nat) (a2 : Nat) (a3 : Nat) (x4 : Int32) (o5 : Option Value) (o6 : Option Value) (h : mm_H) :
  mm_r282_865 E cl (n + 1) a0 a1 a2 a3 x4 o5 o6 h =
  mm_rI E h a0 (x4 + (mm_i 1)) fun v_1 =>
  mm_cI [] (cl 114 [.ref a1, .int v_1] h) fun v_3 h_2 =>
  mm_rI E h_2 a0 (x4 + (mm_i 1)) fun v_4 =>
  mm_cI [] (cl 190 [.ref a2, .int v_4] h_2) fun v_6 h_5 =>
  (mm_br (v_3 = v_6) (
  mm_r282_1812 E cl n a0 a1 a2 a3 x4 o5 o6 h_5) (
  (mm_bz (mm_i 0) (some (.inl (some (.int (mm_i 0))), h_5))))) := rfl
set_option maxRecDepth 20000 in
set_option maxHeartbeats 4000000 in
theorem mm_e282_890 (E : mm_E) (cl : mm_F) (n : Nat) (a0 : Nat) (a1 : Nat) (a2 : Nat) (a3 : Nat) (x4 : Int32) (o5 : Option Value) (o6 : Option Value) (h : mm_H) :
  mm_r282_890 E cl (n + 1) a0 a1 a2 a3 x4 o5 o6 h =
  mm_rI E h a0 (x4 + (mm_i 1)) fun v_1 =>
  mm_rI E h a0 (x4 + (mm_i 2)) fun v_2 =>
  mm_cI [] (cl 269 [.ref a1, .int v_1, .int v_2, .ref a3] h) fun v_4 h_3 =>
  mm_rI E h_3 a0 (x4 + (mm_i 1)) fun v_5 =>
  mm_rI E h_3 a0 (x4 + (mm_i 2)) fun v_6 =>
  mm_cI [] (cl 187 [.ref a2, .int v_5, .int v_6] h_3) fun v_8 h_7 =>
  mm_cI [] (cl 145 [.ref a2] h_7) fun v_10 h_9 =>
  (mm_br (v_10 = v_4) (
  (mm_br (v_4 = (mm_i 0)) (
    mm_rJ h_9 a3 (mm_i 0) fun w_11 =>
      (mm_br ((lg_cmp w_11 (Int32.toInt64 v_8)) = (mm_i 0)) (
      mm_r282_1812 E cl n a0 a1 a2 a3 x4 (some (.int v_4)) (some (.int v_8)) h_9) (
      (mm_bz (mm_i 0) (some (.inl (some (.int (mm_i 0))), h_9)))))) (
    mm_r282_1812 E cl n a0 a1 a2 a3 x4 (some (.int v_4)) (some (.int v_8)) h_9))) (
  (mm_bz (mm_i 0) (some (.inl (some (.int (mm_i 0))), h_9))))) := rfl
set_option maxRecDepth 20000 in
set_option maxHeartbeats 4000000 in
theorem mm_e282_958 (E : mm_E) (cl : mm_F) (n : Nat) (a0 : Nat) (a1 : Nat) (a2 : Nat) (a3 : Nat) (x4 : Int32) (o5 : Option Value) (o6 : Option Value) (h : mm_H) :
  mm_r282_958 E cl (n + 1) a0 a1 a2 a3 x4 o5 o6 h =
  mm_rI E h a0 (x4 + (mm_i 1)) fun v_1 =>
  mm_rI E h a0 (x4 + (mm_i 2)) fun v_2 =>
  mm_cI [] (cl 270 [.ref a1, .int v_1, .int v_2, .ref a3] h) fun v_4 h_3 =>
  mm_rI E h_3 a0 (x4 + (mm_i 1)) fun v_5 =>
  mm_rI E h_3 a0 (x4 + (mm_i 2)) fun v_6 =>
  mm_cI [] (cl 185 [.ref a2, .int v_5, .int v_6] h_3) fun v_8 h_7 =>
  mm_cI [] (cl 145 [.ref a2] h_7) fun v_10 h_9 =>
  (mm_br (v_10 = v_4) (
  (mm_br (v_4 = (mm_i 0)) (
    mm_rJ h_9 a3 (mm_i 0) fun w_11 =>
      (mm_br ((lg_cmp w_11 (Int32.toInt64 v_8)) = (mm_i 0)) (
      mm_r282_1812 E cl n a0 a1 a2 a3 x4 (some (.int v_4)) (some (.int v_8)) h_9) (
      (mm_bz (mm_i 0) (some (.inl (some (.int (mm_i 0))), h_9)))))) (
    mm_r282_1812 E cl n a0 a1 a2 a3 x4 (some (.int v_4)) (some (.int v_8)) h_9))) (
  (mm_bz (mm_i 0) (some (.inl (some (.int (mm_i 0))), h_9))))) := rfl
set_option maxRecDepth 20000 in
set_option maxHeartbeats 4000000 in
theorem mm_e282_1026 (E : mm_E) (cl : mm_F) (n : Nat) (a0 : Nat) (a1 : Nat) (a2 : Nat) (a3 : Nat) (x4 : Int32) (o5 : Option Value) (o6 : Option Value) (h : mm_H) :
  mm_r282_1026 E cl (n + 1) a0 a1 a2 a3 x4 o5 o6 h =
  mm_rI E h a0 (x4 + (mm_i 1)) fun v_1 =>
  mm_cI [] (cl 271 [.ref a1, .int v_1, .ref a3] h) fun v_3 h_2 =>
  mm_rI E h_2 a0 (x4 + (mm_i 1)) fun v_4 =>
  mm_cI [] (cl 186 [.ref a2, .int v_4] h_2) fun v_6 h_5 =>
  mm_cI [] (cl 145 [.ref a2] h_5) fun v_8 h_7 =>
  (mm_br (v_8 = v_3) (
  (mm_br (v_3 = (mm_i 0)) (
    mm_rJ h_7 a3 (mm_i 0) fun w_9 =>
      (mm_br ((lg_cmp w_9 (Int32.toInt64 v_6)) = (mm_i 0)) (
      mm_r282_1812 E cl n a0 a1 a2 a3 x4 (some (.int v_3)) (some (.int v_6)) h_7) (
      (mm_bz (mm_i 0) (some (.inl (some (.int (mm_i 0))), h_7)))))) (
    mm_r282_1812 E cl n a0 a1 a2 a3 x4 (some (.int v_3)) (some (.int v_6)) h_7))) (
  (mm_bz (mm_i 0) (some (.inl (some (.int (mm_i 0))), h_7))))) := rfl
set_option maxRecDepth 20000 in
set_option maxHeartbeats 4000000 in
theorem mm_e282_1082 (E : mm_E) (cl : mm_F) (n : Nat) (a0 : Nat) (a1 : Nat) (a2 : Nat) (a3 : Nat) (x4 : Int32) (o5 : Option Value) (o6 : Option Value) (h : mm_H) :
  mm_r282_1082 E cl (n + 1) a0 a1 a2 a3 x4 o5 o6 h =
  mm_cI [] (cl 118 [.ref a1] h) fun v_2 h_1 =>
  mm_cI [] (cl 204 [.ref a2] h_1) fun v_4 h_3 =>
  (mm_br (v_2 = v_4) (
  mm_r282_1812 E cl n a0 a1 a2 a3 x4 o5 o6 h_3) (
  (mm_bz (mm_i 0) (some (.inl (some (.int (mm_i 0))), h_3))))) := rfl
set_option maxRecDepth 20000 in
set_option maxHeartbeats 4000000 in
theorem mm_e282_1095 (E : mm_E) (cl : mm_F) (n : Nat) (a0 : Nat) (a1 : Nat) (a2 : Nat) (a3 : Nat) (x4 : Int32) (o5 : Option Value) (o6 : Option Value) (h : mm_H) :
  mm_r282_1095 E cl (n + 1) a0 a1 a2 a3 x4 o5 o6 h =
  mm_rI E h a0 (x4 + (mm_i 1)) fun v_1 =>
  mm_rI E h a0 (x4 + (mm_i 2)) fun v_2 =>
  mm_cI [] (cl 272 [.ref a1, .int v_1, .int v_2, .ref a3] h) fun v_4 h_3 =>
  mm_rI E h_3 a0 (x4 + (mm_i 1)) fun v_5 =>
  mm_rI E h_3 a0 (x4 + (mm_i 2)) fun v_6 =>
  mm_cI [] (cl 207 [.ref a2, .int v_5, .int v_6] h_3) fun v_8 h_7 =>
  mm_cI [] (cl 145 [.ref a2] h_7) fun v_10 h_9 =>
  (mm_br (v_10 = v_4) (
  (mm_br (v_4 = (mm_i 0)) (
    mm_rJ h_9 a3 (mm_i 0) fun w_11 =>
      (mm_br ((lg_cmp w_11 (Int32.toInt64 v_8)) = (mm_i 0)) (
      mm_r282_1812 E cl n a0 a1 a2 a3 x4 (some (.int v_4)) (some (.int v_8)) h_9) (
      (mm_bz (mm_i 0) (some (.inl (some (.int (mm_i 0))), h_9)))))) (
    mm_r282_1812 E cl n a0 a1 a2 a3 x4 (some (.int v_4)) (some (.int v_8)) h_9))) (
  (mm_bz (mm_i 0) (some (.inl (some (.int (mm_i 0))), h_9))))) := rfl
set_option maxRecDepth 20000 in
set_option maxHeartbeats 4000000 in
theorem mm_e282_1163 (E : mm_E) (cl : mm_F) (n : Nat) (a0 : Nat) (a1 : Nat) (a2 : Nat) (a3 : Nat) (x4 : Int32) (o5 : Option Value) (o6 : Option Value) (h : mm_H) :
  mm_r282_1163 E cl (n + 1) a0 a1 a2 a3 x4 o5 o6 h =
  mm_rI E h a0 (x4 + (mm_i 1)) fun v_1 =>
  mm_cI [] (cl 273 [.ref a1, .int v_1, .ref a3] h) fun v_3 h_2 =>
  mm_rI E h_2 a0 (x4 + (mm_i 1)) fun v_4 =>
  mm_cI [] (cl 209 [.ref a2, .int v_4] h_2) fun v_6 h_5 =>
  mm_cI [] (cl 145 [.ref a2] h_5) fun v_8 h_7 =>
  (mm_br (v_8 = v_3) (
  (mm_br (v_3 = (mm_i 0)) (
    mm_rJ h_7 a3 (mm_i 0) fun w_9 =>
      (mm_br ((lg_cmp w_9 (Int32.toInt64 v_6)) = (mm_i 0)) (
      mm_r282_1812 E cl n a0 a1 a2 a3 x4 (some (.int v_3)) (some (.int v_6)) h_7) (
      (mm_bz (mm_i 0) (some (.inl (some (.int (mm_i 0))), h_7)))))) (
    mm_r282_1812 E cl n a0 a1 a2 a3 x4 (some (.int v_3)) (some (.int v_6)) h_7))) (
  (mm_bz (mm_i 0) (some (.inl (some (.int (mm_i 0))), h_7))))) := rfl
set_option maxRecDepth 20000 in
set_option maxHeartbeats 4000000 in
theorem mm_e282_1219 (E : mm_E) (cl : mm_F) (n : Nat) (a0 : Nat) (a1 : Nat) (a2 : Nat) (a3 : Nat) (x4 : Int32) (o5 : Option Value) (o6 : Option Value) (h : mm_H) :
  mm_r282_1219 E cl (n + 1) a0 a1 a2 a3 x4 o5 o6 h =
  mm_rI E h a0 (x4 + (mm_i 1)) fun v_1 =>
  mm_cI [] (cl 121 [.ref a1, .int v_1] h) fun v_3 h_2 =>
  mm_rI E h_2 a0 (x4 + (mm_i 1)) fun v_4 =>
  mm_cI [] (cl 210 [.ref a2, .int v_4] h_2) fun v_6 h_5 =>
  (mm_br (v_3 = v_6) (
  mm_r282_1812 E cl n a0 a1 a2 a3 x4 o5 o6 h_5) (
  (mm_bz (mm_i 0) (some (.inl (some (.int (mm_i 0))), h_5))))) := rfl
set_option maxRecDepth 20000 in
set_option maxHeartbeats 4000000 in
theorem mm_e282_1244 (E : mm_E) (cl : mm_F) (n : Nat) (a0 : Nat) (a1 : Nat) (a2 : Nat) (a3 : Nat) (x4 : Int32) (o5 : Option Value) (o6 : Option Value) (h : mm_H) :
  mm_r282_1244 E cl (n + 1) a0 a1 a2 a3 x4 o5 o6 h =
  mm_rI E h a0 (x4 + (mm_i 1)) fun v_1 =>
  mm_rI E h a0 (x4 + (mm_i 2)) fun v_2 =>
  mm_cI [] (cl 274 [.ref a1, .int v_1, .int v_2, .ref a3] h) fun v_4 h_3 =>
  mm_rI E h_3 a0 (x4 + (mm_i 1)) fun v_5 =>
  mm_rI E h_3 a0 (x4 + (mm_i 2)) fun v_6 =>
  mm_cI [] (cl 211 [.ref a2, .int v_5, .int v_6] h_3) fun v_8 h_7 =>
  mm_cI [] (cl 145 [.ref a2] h_7) fun v_10 h_9 =>
  (mm_br (v_10 = v_4) (
  (mm_br (v_4 = (mm_i 0)) (
    mm_rJ h_9 a3 (mm_i 0) fun w_11 =>
      (mm_br ((lg_cmp w_11 (Int32.toInt64 v_8)) = (mm_i 0)) (
      mm_r282_1812 E cl n a0 a1 a2 a3 x4 (some (.int v_4)) (some (.int v_8)) h_9) (
      (mm_bz (mm_i 0) (some (.inl (some (.int (mm_i 0))), h_9)))))) (
    mm_r282_1812 E cl n a0 a1 a2 a3 x4 (some (.int v_4)) (some (.int v_8)) h_9))) (
  (mm_bz (mm_i 0) (some (.inl (some (.int (mm_i 0))), h_9))))) := rfl
set_option maxRecDepth 20000 in
set_option maxHeartbeats 4000000 in
theorem mm_e282_1312 (E : mm_E) (cl : mm_F) (n : Nat) (a0 : Nat) (a1 : Nat) (a2 : Nat) (a3 : Nat) (x4 : Int32) (o5 : Option Value) (o6 : Option Value) (h : mm_H) :
  mm_r282_1312 E cl (n + 1) a0 a1 a2 a3 x4 o5 o6 h =
  mm_rI E h a0 (x4 + (mm_i 1)) fun v_1 =>
  mm_rI E h a0 (x4 + (mm_i 2)) fun v_2 =>
  mm_rI E h a0 (x4 + (mm_i 3)) fun v_3 =>
  mm_cI [] (cl 275 [.ref a1, .int v_1, .int v_2, .int v_3, .ref a3] h) fun v_5 h_4 =>
  mm_rI E h_4 a0 (x4 + (mm_i 1)) fun v_6 =>
  mm_rI E h_4 a0 (x4 + (mm_i 2)) fun v_7 =>
  mm_rI E h_4 a0 (x4 + (mm_i 3)) fun v_8 =>
  mm_cI [] (cl 214 [.ref a2, .int v_6, .int v_7, .int v_8] h_4) fun v_10 h_9 =>
  mm_cI [] (cl 145 [.ref a2] h_9) fun v_12 h_11 =>
  (mm_br (v_12 = v_5) (
  (mm_br (v_5 = (mm_i 0)) (
    mm_rJ h_11 a3 (mm_i 0) fun w_13 =>
      (mm_br ((lg_cmp w_13 (Int32.toInt64 v_10)) = (mm_i 0)) (
      mm_r282_1812 E cl n a0 a1 a2 a3 x4 (some (.int v_5)) (some (.int v_10)) h_11) (
      (mm_bz (mm_i 0) (some (.inl (some (.int (mm_i 0))), h_11)))))) (
    mm_r282_1812 E cl n a0 a1 a2 a3 x4 (some (.int v_5)) (some (.int v_10)) h_11))) (
  (mm_bz (mm_i 0) (some (.inl (some (.int (mm_i 0))), h_11))))) := rfl
set_option maxRecDepth 20000 in
set_option maxHeartbeats 4000000 in
theorem mm_e282_1392 (E : mm_E) (cl : mm_F) (n : Nat) (a0 : Nat) (a1 : Nat) (a2 : Nat) (a3 : Nat) (x4 : Int32) (o5 : Option Value) (o6 : Option Value) (h : mm_H) :
  mm_r282_1392 E cl (n + 1) a0 a1 a2 a3 x4 o5 o6 h =
  mm_rI E h a0 (x4 + (mm_i 1)) fun v_1 =>
  mm_rI E h a0 (x4 + (mm_i 2)) fun v_2 =>
  mm_cI [] (cl 276 [.ref a1, .int v_1, .int v_2, .ref a3] h) fun v_4 h_3 =>
  mm_rI E h_3 a0 (x4 + (mm_i 1)) fun v_5 =>
  mm_rI E h_3 a0 (x4 + (mm_i 2)) fun v_6 =>
  mm_cI [] (cl 216 [.ref a2, .int v_5, .int v_6] h_3) fun v_8 h_7 =>
  mm_cI [] (cl 145 [.ref a2] h_7) fun v_10 h_9 =>
  (mm_br (v_10 = v_4) (
  (mm_br (v_4 = (mm_i 0)) (
    mm_rJ h_9 a3 (mm_i 0) fun w_11 =>
      (mm_br ((lg_cmp w_11 (Int32.toInt64 v_8)) = (mm_i 0)) (
      mm_r282_1812 E cl n a0 a1 a2 a3 x4 (some (.int v_4)) (some (.int v_8)) h_9) (
      (mm_bz (mm_i 0) (some (.inl (some (.int (mm_i 0))), h_9)))))) (
    mm_r282_1812 E cl n a0 a1 a2 a3 x4 (some (.int v_4)) (some (.int v_8)) h_9))) (
  (mm_bz (mm_i 0) (some (.inl (some (.int (mm_i 0))), h_9))))) := rfl
set_option maxRecDepth 20000 in
set_option maxHeartbeats 4000000 in
theorem mm_e282_1460 (E : mm_E) (cl : mm_F) (n : Nat) (a0 : Nat) (a1 : Nat) (a2 : Nat) (a3 : Nat) (x4 : Int32) (o5 : Option Value) (o6 : Option Value) (h : mm_H) :
  mm_r282_1460 E cl (n + 1) a0 a1 a2 a3 x4 o5 o6 h =
  mm_rI E h a0 (x4 + (mm_i 1)) fun v_1 =>
  mm_rI E h a0 (x4 + (mm_i 2)) fun v_2 =>
  mm_rI E h a0 (x4 + (mm_i 3)) fun v_3 =>
  mm_cI [] (cl 277 [.ref a1, .int v_1, .int v_2, .int v_3, .ref a3] h) fun v_5 h_4 =>
  mm_rI E h_4 a0 (x4 + (mm_i 1)) fun v_6 =>
  mm_rI E h_4 a0 (x4 + (mm_i 2)) fun v_7 =>
  mm_rI E h_4 a0 (x4 + (mm_i 3)) fun v_8 =>
  mm_cI [] (cl 221 [.ref a2, .int v_6, .int v_7, .int v_8] h_4) fun v_10 h_9 =>
  mm_cI [] (cl 145 [.ref a2] h_9) fun v_12 h_11 =>
  (mm_br (v_12 = v_5) (
  (mm_br (v_5 = (mm_i 0)) (
    mm_rJ h_11 a3 (mm_i 0) fun w_13 =>
      (mm_br ((lg_cmp w_13 (Int32.toInt64 v_10)) = (mm_i 0)) (
      mm_r282_1812 E cl n a0 a1 a2 a3 x4 (some (.int v_5)) (some (.int v_10)) h_11) (
      (mm_bz (mm_i 0) (some (.inl (some (.int (mm_i 0))), h_11)))))) (
    mm_r282_1812 E cl n a0 a1 a2 a3 x4 (some (.int v_5)) (some (.int v_10)) h_11))) (
  (mm_bz (mm_i 0) (some (.inl (some (.int (mm_i 0))), h_11))))) := rfl
set_option maxRecDepth 20000 in
set_option maxHeartbeats 4000000 in
theorem mm_e282_1540 (E : mm_E) (cl : mm_F) (n : Nat) (a0 : Nat) (a1 : Nat) (a2 : Nat) (a3 : Nat) (x4 : Int32) (o5 : Option Value) (o6 : Option Value) (h : mm_H) :
  mm_r282_1540 E cl (n + 1) a0 a1 a2 a3 x4 o5 o6 h =
  mm_rI E h a0 (x4 + (mm_i 1)) fun v_1 =>
  mm_rI E h a0 (x4 + (mm_i 2)) fun v_2 =>
  mm_cI [] (cl 278 [.ref a1, .int v_1, .int v_2, .ref a3] h) fun v_4 h_3 =>
  mm_rI E h_3 a0 (x4 + (mm_i 1)) fun v_5 =>
  mm_rI E h_3 a0 (x4 + (mm_i 2)) fun v_6 =>
  mm_cI [] (cl 222 [.ref a2, .int v_5, .int v_6] h_3) fun v_8 h_7 =>
  mm_cI [] (cl 145 [.ref a2] h_7) fun v_10 h_9 =>
  (mm_br (v_10 = v_4) (
  (mm_br (v_4 = (mm_i 0)) (
    mm_rJ h_9 a3 (mm_i 0) fun w_11 =>
      (mm_br ((lg_cmp w_11 (Int32.toInt64 v_8)) = (mm_i 0)) (
      mm_r282_1812 E cl n a0 a1 a2 a3 x4 (some (.int v_4)) (some (.int v_8)) h_9) (
      (mm_bz (mm_i 0) (some (.inl (some (.int (mm_i 0))), h_9)))))) (
    mm_r282_1812 E cl n a0 a1 a2 a3 x4 (some (.int v_4)) (some (.int v_8)) h_9))) (
  (mm_bz (mm_i 0) (some (.inl (some (.int (mm_i 0))), h_9))))) := rfl
set_option maxRecDepth 20000 in
set_option maxHeartbeats 4000000 in
theorem mm_e282_1608 (E : mm_E) (cl : mm_F) (n : Nat) (a0 : Nat) (a1 : Nat) (a2 : Nat) (a3 : Nat) (x4 : Int32) (o5 : Option Value) (o6 : Option Value) (h : mm_H) :
  mm_r282_1608 E cl (n + 1) a0 a1 a2 a3 x4 o5 o6 h =
  mm_rI E h a0 (x4 + (mm_i 1)) fun v_1 =>
  mm_cI [] (cl 279 [.ref a1, .int v_1, .ref a3] h) fun v_3 h_2 =>
  mm_rI E h_2 a0 (x4 + (mm_i 1)) fun v_4 =>
  mm_cI [] (cl 261 [.ref a2, .int v_4] h_2) fun v_6 h_5 =>
  mm_cI [] (cl 145 [.ref a2] h_5) fun v_8 h_7 =>
  (mm_br (v_8 = v_3) (
  (mm_br (v_3 = (mm_i 0)) (
    mm_rJ h_7 a3 (mm_i 0) fun w_9 =>
      (mm_br ((lg_cmp w_9 (Int32.toInt64 v_6)) = (mm_i 0)) (
      mm_r282_1812 E cl n a0 a1 a2 a3 x4 (some (.int v_3)) (some (.int v_6)) h_7) (
      (mm_bz (mm_i 0) (some (.inl (some (.int (mm_i 0))), h_7)))))) (
    mm_r282_1812 E cl n a0 a1 a2 a3 x4 (some (.int v_3)) (some (.int v_6)) h_7))) (
  (mm_bz (mm_i 0) (some (.inl (some (.int (mm_i 0))), h_7))))) := rfl
set_option maxRecDepth 20000 in
set_option maxHeartbeats 4000000 in
theorem mm_e282_1664 (E : mm_E) (cl : mm_F) (n : Nat) (a0 : Nat) (a1 : Nat) (a2 : Nat) (a3 : Nat) (x4 : Int32) (o5 : Option Value) (o6 : Option Value) (h : mm_H) :
  mm_r282_1664 E cl (n + 1) a0 a1 a2 a3 x4 o5 o6 h =
  mm_rI E h a0 (x4 + (mm_i 1)) fun v_1 =>
  mm_rI E h a0 (x4 + (mm_i 2)) fun v_2 =>
  mm_cI [] (cl 280 [.ref a1, .int v_1, .int v_2, .ref a3] h) fun v_4 h_3 =>
  mm_rI E h_3 a0 (x4 + (mm_i 1)) fun v_5 =>
  mm_rI E h_3 a0 (x4 + (mm_i 2)) fun v_6 =>
  mm_cI [] (cl 224 [.ref a2, .int v_5, .int v_6] h_3) fun v_8 h_7 =>
  mm_cI [] (cl 145 [.ref a2] h_7) fun v_10 h_9 =>
  (mm_br (v_10 = v_4) (
  (mm_br (v_4 = (mm_i 0)) (
    mm_rJ h_9 a3 (mm_i 0) fun w_11 =>
      (mm_br ((lg_cmp w_11 (Int32.toInt64 v_8)) = (mm_i 0)) (
      mm_r282_1812 E cl n a0 a1 a2 a3 x4 (some (.int v_4)) (some (.int v_8)) h_9) (
      (mm_bz (mm_i 0) (some (.inl (some (.int (mm_i 0))), h_9)))))) (
    mm_r282_1812 E cl n a0 a1 a2 a3 x4 (some (.int v_4)) (some (.int v_8)) h_9))) (
  (mm_bz (mm_i 0) (some (.inl (some (.int (mm_i 0))), h_9))))) := rfl
set_option maxRecDepth 20000 in
set_option maxHeartbeats 4000000 in
theorem mm_e282_1732 (E : mm_E) (cl : mm_F) (n : Nat) (a0 : Nat) (a1 : Nat) (a2 : Nat) (a3 : Nat) (x4 : Int32) (o5 : Option Value) (o6 : Option Value) (h : mm_H) :
  mm_r282_1732 E cl (n + 1) a0 a1 a2 a3 x4 o5 o6 h =
  mm_rI E h a0 (x4 + (mm_i 1)) fun v_1 =>
  mm_cI [] (cl 281 [.ref a1, .int v_1, .ref a3] h) fun v_3 h_2 =>
  mm_rI E h_2 a0 (x4 + (mm_i 1)) fun v_4 =>
  mm_cI [] (cl 213 [.ref a2, .int v_4] h_2) fun v_6 h_5 =>
  mm_cI [] (cl 145 [.ref a2] h_5) fun v_8 h_7 =>
  (mm_br (v_8 = v_3) (
  (mm_br (v_3 = (mm_i 0)) (
    mm_rJ h_7 a3 (mm_i 0) fun w_9 =>
      (mm_br ((lg_cmp w_9 (Int32.toInt64 v_6)) = (mm_i 0)) (
      mm_r282_1812 E cl n a0 a1 a2 a3 x4 (some (.int v_3)) (some (.int v_6)) h_7) (
      (mm_bz (mm_i 0) (some (.inl (some (.int (mm_i 0))), h_7)))))) (
    mm_r282_1812 E cl n a0 a1 a2 a3 x4 (some (.int v_3)) (some (.int v_6)) h_7))) (
  (mm_bz (mm_i 0) (some (.inl (some (.int (mm_i 0))), h_7))))) := rfl
set_option maxRecDepth 20000 in
set_option maxHeartbeats 4000000 in
theorem mm_e282_1788 (E : mm_E) (cl : mm_F) (n : Nat) (a0 : Nat) (a1 : Nat) (a2 : Nat) (a3 : Nat) (x4 : Int32) (o5 : Option Value) (o6 : Option Value) (h : mm_H) :
  mm_r282_1788 E cl (n + 1) a0 a1 a2 a3 x4 o5 o6 h =
  mm_cV [] (cl 130 [.ref a1] h) fun h_1 =>
  mm_cV [] (cl 226 [.ref a2] h_1) fun h_2 =>
  mm_r282_1812 E cl n a0 a1 a2 a3 x4 o5 o6 h_2 := rfl
set_option maxRecDepth 20000 in
set_option maxHeartbeats 4000000 in
theorem mm_e282_1799 (E : mm_E) (cl : mm_F) (n : Nat) (a0 : Nat) (a1 : Nat) (a2 : Nat) (a3 : Nat) (x4 : Int32) (o5 : Option Value) (o6 : Option Value) (h : mm_H) :
  mm_r282_1799 E cl (n + 1) a0 a1 a2 a3 x4 o5 o6 h =
  mm_cI [] (cl 131 [.ref a1] h) fun v_2 h_1 =>
  mm_cI [] (cl 227 [.ref a2] h_1) fun v_4 h_3 =>
  (mm_br (v_2 = v_4) (
  mm_r282_1812 E cl n a0 a1 a2 a3 x4 o5 o6 h_3) (
  (mm_bz (mm_i 0) (some (.inl (some (.int (mm_i 0))), h_3))))) := rfl
set_option maxRecDepth 20000 in
set_option maxHeartbeats 4000000 in
theorem mm_e282_1812 (E : mm_E) (cl : mm_F) (n : Nat) (a0 : Nat) (a1 : Nat) (a2 : Nat) (a3 : Nat) (x4 : Int32) (o5 : Option Value) (o6 : Option Value) (h : mm_H) :
  mm_r282_1812 E cl (n + 1) a0 a1 a2 a3 x4 o5 o6 h =
  mm_r282_23 E cl n a0 a1 a2 a3 (x4 + (mm_i 6)) o5 o6 h := rfl
-- Int.bitCount
def mm_r283_0 (E : mm_E) (cl : mm_F) (n : Nat) (x0 : Int32) (h : mm_H) : mm_R := mm_run E cl mm_m283 n 0 [some (.int x0)] [] h
set_option maxRecDepth 20000 in
set_option maxHeartbeats 4000000 in
theorem mm_e283_0 (E : mm_E) (cl : mm_F) (n : Nat) (x0 : Int32) (h : mm_H) :
  mm_r283_0 E cl (n + 1) x0 h =
  some (.inl (some (.int ((((((((x0 - ((((x0).toUInt32 >>> (((mm_i 1) : Int32).toUInt32 &&& Int32.toUInt32 31)).toInt32) &&& (mm_i 1431655765))) &&& (mm_i 858993459)) + (((((x0 - ((((x0).toUInt32 >>> (((mm_i 1) : Int32).toUInt32 &&& Int32.toUInt32 31)).toInt32) &&& (mm_i 1431655765)))).toUInt32 >>> (((mm_i 2) : Int32).toUInt32 &&& Int32.toUInt32 31)).toInt32) &&& (mm_i 858993459))) + ((((((x0 - ((((x0).toUInt32 >>> (((mm_i 1) : Int32).toUInt32 &&& Int32.toUInt32 31)).toInt32) &&& (mm_i 1431655765))) &&& (mm_i 858993459)) + (((((x0 - ((((x0).toUInt32 >>> (((mm_i 1) : Int32).toUInt32 &&& Int32.toUInt32 31)).toInt32) &&& (mm_i 1431655765)))).toUInt32 >>> (((mm_i 2) : Int32).toUInt32 &&& Int32.toUInt32 31)).toInt32) &&& (mm_i 858993459)))).toUInt32 >>> (((mm_i 4) : Int32).toUInt32 &&& Int32.toUInt32 31)).toInt32)) &&& (mm_i 252645135)) + ((((((((x0 - ((((x0).toUInt32 >>> (((mm_i 1) : Int32).toUInt32 &&& Int32.toUInt32 31)).toInt32) &&& (mm_i 1431655765))) &&& (mm_i 858993459)) + (((((x0 - ((((x0).toUInt32 >>> (((mm_i 1) : Int32).toUInt32 &&& Int32.toUInt32 31)).toInt32) &&& (mm_i 1431655765)))).toUInt32 >>> (((mm_i 2) : Int32).toUInt32 &&& Int32.toUInt32 31)).toInt32) &&& (mm_i 858993459))) + ((((((x0 - ((((x0).toUInt32 >>> (((mm_i 1) : Int32).toUInt32 &&& Int32.toUInt32 31)).toInt32) &&& (mm_i 1431655765))) &&& (mm_i 858993459)) + (((((x0 - ((((x0).toUInt32 >>> (((mm_i 1) : Int32).toUInt32 &&& Int32.toUInt32 31)).toInt32) &&& (mm_i 1431655765)))).toUInt32 >>> (((mm_i 2) : Int32).toUInt32 &&& Int32.toUInt32 31)).toInt32) &&& (mm_i 858993459)))).toUInt32 >>> (((mm_i 4) : Int32).toUInt32 &&& Int32.toUInt32 31)).toInt32)) &&& (mm_i 252645135))).toUInt32 >>> (((mm_i 8) : Int32).toUInt32 &&& Int32.toUInt32 31)).toInt32)) + (((((((((x0 - ((((x0).toUInt32 >>> (((mm_i 1) : Int32).toUInt32 &&& Int32.toUInt32 31)).toInt32) &&& (mm_i 1431655765))) &&& (mm_i 858993459)) + (((((x0 - ((((x0).toUInt32 >>> (((mm_i 1) : Int32).toUInt32 &&& Int32.toUInt32 31)).toInt32) &&& (mm_i 1431655765)))).toUInt32 >>> (((mm_i 2) : Int32).toUInt32 &&& Int32.toUInt32 31)).toInt32) &&& (mm_i 858993459))) + ((((((x0 - ((((x0).toUInt32 >>> (((mm_i 1) : Int32).toUInt32 &&& Int32.toUInt32 31)).toInt32) &&& (mm_i 1431655765))) &&& (mm_i 858993459)) + (((((x0 - ((((x0).toUInt32 >>> (((mm_i 1) : Int32).toUInt32 &&& Int32.toUInt32 31)).toInt32) &&& (mm_i 1431655765)))).toUInt32 >>> (((mm_i 2) : Int32).toUInt32 &&& Int32.toUInt32 31)).toInt32) &&& (mm_i 858993459)))).toUInt32 >>> (((mm_i 4) : Int32).toUInt32 &&& Int32.toUInt32 31)).toInt32)) &&& (mm_i 252645135)) + ((((((((x0 - ((((x0).toUInt32 >>> (((mm_i 1) : Int32).toUInt32 &&& Int32.toUInt32 31)).toInt32) &&& (mm_i 1431655765))) &&& (mm_i 858993459)) + (((((x0 - ((((x0).toUInt32 >>> (((mm_i 1) : Int32).toUInt32 &&& Int32.toUInt32 31)).toInt32) &&& (mm_i 1431655765)))).toUInt32 >>> (((mm_i 2) : Int32).toUInt32 &&& Int32.toUInt32 31)).toInt32) &&& (mm_i 858993459))) + ((((((x0 - ((((x0).toUInt32 >>> (((mm_i 1) : Int32).toUInt32 &&& Int32.toUInt32 31)).toInt32) &&& (mm_i 1431655765))) &&& (mm_i 858993459)) + (((((x0 - ((((x0).toUInt32 >>> (((mm_i 1) : Int32).toUInt32 &&& Int32.toUInt32 31)).toInt32) &&& (mm_i 1431655765)))).toUInt32 >>> (((mm_i 2) : Int32).toUInt32 &&& Int32.toUInt32 31)).toInt32) &&& (mm_i 858993459)))).toUInt32 >>> (((mm_i 4) : Int32).toUInt32 &&& Int32.toUInt32 31)).toInt32)) &&& (mm_i 252645135))).toUInt32 >>> (((mm_i 8) : Int32).toUInt32 &&& Int32.toUInt32 31)).toInt32))).toUInt32 >>> (((mm_i 16) : Int32).toUInt32 &&& Int32.toUInt32 31)).toInt32)) &&& (mm_i 63)))), h) := rfl
-- Arr.fill
def mm_r286_0 (E : mm_E) (cl : mm_F) (n : Nat) (a0 : Nat) (x1 : Int32) (h : mm_H) : mm_R := mm_run E cl mm_m286 n 0 [some (.ref a0), some (.int x1), none, none] [] h
def mm_r286_5 (E : mm_E) (cl : mm_F) (n : Nat) (a0 : Nat) (x1 : Int32) (x2 : Int32) (x3 : Int32) (h : mm_H) : mm_R := mm_run E cl mm_m286 n 5 [some (.ref a0), some (.int x1), some (.int x2), some (.int x3)] [] h
set_option maxRecDepth 20000 in
set_option maxHeartbeats 4000000 in
theorem mm_e286_0 (E : mm_E) (cl : mm_F) (n : Nat) (a0 : Nat) (x1 : Int32) (h : mm_H) :
  mm_r286_0 E cl (n + 1) a0 x1 h =
  mm_ln E h a0 fun v_1 =>
  mm_r286_5 E cl n a0 x1 (mm_i 0) v_1 h := rfl
set_option maxRecDepth 20000 in
set_option maxHeartbeats 4000000 in
theorem mm_e286_5 (E : mm_E) (cl : mm_F) (n : Nat) (a0 : Nat) (x1 : Int32) (x2 : Int32) (x3 : Int32) (h : mm_H) :
  mm_r286_5 E cl (n + 1) a0 x1 x2 x3 h =
  (mm_br (x3 ≤ x2) (
  some (.inl none, h)) (
  mm_wI h a0 x2 x1 fun h_1 =>
    mm_r286_5 E cl n a0 x1 (x2 + (mm_i 1)) x3 h_1)) := rfl
