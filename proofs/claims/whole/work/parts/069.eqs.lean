/-! EQUATIONS of the runs (by program: wip/whole/eqgen.py) -/
-- Law.law
set_option maxRecDepth 20000 in
set_option maxHeartbeats 4000000 in
theorem mm_e282_374 (E : mm_E) (cl : mm_F) (n : Nat) (a0 : Nat) (a1 : Nat) (a2 : Nat) (a3 : Nat) (x4 : Int32) (o5 : Option Value) (o6 : Option Value) (h : mm_H) :
  mm_run E cl mm_m282 (n + 1) 374 [some (.ref a0), some (.ref a1), some (.ref a2), some (.ref a3), some (.int x4), o5, o6] [] h =
  mm_rI E h a0 (x4 + 1) fun v_1 =>
  mm_rI E h a0 (x4 + 2) fun v_2 =>
  mm_cI [] (cl 264 [.ref a1, .int v_1, .int v_2, .ref a3] h) fun v_4 h_3 =>
  mm_rI E h_3 a0 (x4 + 1) fun v_5 =>
  mm_rI E h_3 a0 (x4 + 2) fun v_6 =>
  mm_cI [] (cl 169 [.ref a2, .int v_5, .int v_6] h_3) fun v_8 h_7 =>
  mm_cI [] (cl 145 [.ref a2] h_7) fun v_10 h_9 =>
  (mm_br (v_10 = v_4) (
  (mm_br (v_4 = 0) (
    mm_rJ h_9 a3 0 fun w_11 =>
      (mm_br ((lg_cmp w_11 (Int32.toInt64 v_8)) = 0) (
      mm_run E cl mm_m282 n 1812 [some (.ref a0), some (.ref a1), some (.ref a2), some (.ref a3), some (.int x4), some (.int v_4), some (.int v_8)] [] h_9) (
      (mm_bz 0 (some (.inl (some (.int 0)), h_9)))))) (
    mm_run E cl mm_m282 n 1812 [some (.ref a0), some (.ref a1), some (.ref a2), some (.ref a3), some (.int x4), some (.int v_4), some (.int v_8)] [] h_9))) (
  (mm_bz 0 (some (.inl (some (.int 0)), h_9))))) := rfl
-- Law.law
set_option maxRecDepth 20000 in
set_option maxHeartbeats 4000000 in
theorem mm_e282_442 (E : mm_E) (cl : mm_F) (n : Nat) (a0 : Nat) (a1 : Nat) (a2 : Nat) (a3 : Nat) (x4 : Int32) (o5 : Option Value) (o6 : Option Value) (h : mm_H) :
  mm_run E cl mm_m282 (n + 1) 442 [some (.ref a0), some (.ref a1), some (.ref a2), some (.ref a3), some (.int x4), o5, o6] [] h =
  mm_rI E h a0 (x4 + 1) fun v_1 =>
  mm_rI E h a0 (x4 + 2) fun v_2 =>
  mm_cI [] (cl 265 [.ref a1, .int v_1, .int v_2, .ref a3] h) fun v_4 h_3 =>
  mm_rI E h_3 a0 (x4 + 1) fun v_5 =>
  mm_rI E h_3 a0 (x4 + 2) fun v_6 =>
  mm_cI [] (cl 170 [.ref a2, .int v_5, .int v_6] h_3) fun v_8 h_7 =>
  mm_cI [] (cl 145 [.ref a2] h_7) fun v_10 h_9 =>
  (mm_br (v_10 = v_4) (
  (mm_br (v_4 = 0) (
    mm_rJ h_9 a3 0 fun w_11 =>
      (mm_br ((lg_cmp w_11 (Int32.toInt64 v_8)) = 0) (
      mm_run E cl mm_m282 n 1812 [some (.ref a0), some (.ref a1), some (.ref a2), some (.ref a3), some (.int x4), some (.int v_4), some (.int v_8)] [] h_9) (
      (mm_bz 0 (some (.inl (some (.int 0)), h_9)))))) (
    mm_run E cl mm_m282 n 1812 [some (.ref a0), some (.ref a1), some (.ref a2), some (.ref a3), some (.int x4), some (.int v_4), some (.int v_8)] [] h_9))) (
  (mm_bz 0 (some (.inl (some (.int 0)), h_9))))) := rfl
-- Law.law
set_option maxRecDepth 20000 in
set_option maxHeartbeats 4000000 in
theorem mm_e282_510 (E : mm_E) (cl : mm_F) (n : Nat) (a0 : Nat) (a1 : Nat) (a2 : Nat) (a3 : Nat) (x4 : Int32) (o5 : Option Value) (o6 : Option Value) (h : mm_H) :
  mm_run E cl mm_m282 (n + 1) 510 [some (.ref a0), some (.ref a1), some (.ref a2), some (.ref a3), some (.int x4), o5, o6] [] h =
  mm_rI E h a0 (x4 + 1) fun v_1 =>
  mm_rI E h a0 (x4 + 2) fun v_2 =>
  mm_rI E h a0 (x4 + 3) fun v_3 =>
  mm_cI [] (cl 266 [.ref a1, .int v_1, .int v_2, .int v_3, .ref a3] h) fun v_5 h_4 =>
  mm_rI E h_4 a0 (x4 + 1) fun v_6 =>
  mm_rI E h_4 a0 (x4 + 2) fun v_7 =>
  mm_rI E h_4 a0 (x4 + 3) fun v_8 =>
  mm_cI [] (cl 167 [.ref a2, .int v_6, .int v_7, .int v_8] h_4) fun v_10 h_9 =>
  mm_cI [] (cl 145 [.ref a2] h_9) fun v_12 h_11 =>
  (mm_br (v_12 = v_5) (
  (mm_br (v_5 = 0) (
    mm_rJ h_11 a3 0 fun w_13 =>
      (mm_br ((lg_cmp w_13 (Int32.toInt64 v_10)) = 0) (
      mm_run E cl mm_m282 n 1812 [some (.ref a0), some (.ref a1), some (.ref a2), some (.ref a3), some (.int x4), some (.int v_5), some (.int v_10)] [] h_11) (
      (mm_bz 0 (some (.inl (some (.int 0)), h_11)))))) (
    mm_run E cl mm_m282 n 1812 [some (.ref a0), some (.ref a1), some (.ref a2), some (.ref a3), some (.int x4), some (.int v_5), some (.int v_10)] [] h_11))) (
  (mm_bz 0 (some (.inl (some (.int 0)), h_11))))) := rfl
-- Law.law
set_option maxRecDepth 20000 in
set_option maxHeartbeats 4000000 in
theorem mm_e282_590 (E : mm_E) (cl : mm_F) (n : Nat) (a0 : Nat) (a1 : Nat) (a2 : Nat) (a3 : Nat) (x4 : Int32) (o5 : Option Value) (o6 : Option Value) (h : mm_H) :
  mm_run E cl mm_m282 (n + 1) 590 [some (.ref a0), some (.ref a1), some (.ref a2), some (.ref a3), some (.int x4), o5, o6] [] h =
  mm_rI E h a0 (x4 + 1) fun v_1 =>
  mm_rI E h a0 (x4 + 2) fun v_2 =>
  mm_rI E h a0 (x4 + 3) fun v_3 =>
  mm_cI [] (cl 267 [.ref a1, .int v_1, .int v_2, .int v_3, .ref a3] h) fun v_5 h_4 =>
  mm_rI E h_4 a0 (x4 + 1) fun v_6 =>
  mm_rI E h_4 a0 (x4 + 2) fun v_7 =>
  mm_rI E h_4 a0 (x4 + 3) fun v_8 =>
  mm_cI [] (cl 173 [.ref a2, .int v_6, .int v_7, .int v_8] h_4) fun v_10 h_9 =>
  mm_cI [] (cl 145 [.ref a2] h_9) fun v_12 h_11 =>
  (mm_br (v_12 = v_5) (
  (mm_br (v_5 = 0) (
    mm_rJ h_11 a3 0 fun w_13 =>
      (mm_br ((lg_cmp w_13 (Int32.toInt64 v_10)) = 0) (
      mm_run E cl mm_m282 n 1812 [some (.ref a0), some (.ref a1), some (.ref a2), some (.ref a3), some (.int x4), some (.int v_5), some (.int v_10)] [] h_11) (
      (mm_bz 0 (some (.inl (some (.int 0)), h_11)))))) (
    mm_run E cl mm_m282 n 1812 [some (.ref a0), some (.ref a1), some (.ref a2), some (.ref a3), some (.int x4), some (.int v_5), some (.int v_10)] [] h_11))) (
  (mm_bz 0 (some (.inl (some (.int 0)), h_11))))) := rfl
-- Law.law
set_option maxRecDepth 20000 in
set_option maxHeartbeats 4000000 in
theorem mm_e282_670 (E : mm_E) (cl : mm_F) (n : Nat) (a0 : Nat) (a1 : Nat) (a2 : Nat) (a3 : Nat) (x4 : Int32) (o5 : Option Value) (o6 : Option Value) (h : mm_H) :
  mm_run E cl mm_m282 (n + 1) 670 [some (.ref a0), some (.ref a1), some (.ref a2), some (.ref a3), some (.int x4), o5, o6] [] h =
  mm_rI E h a0 (x4 + 1) fun v_1 =>
  mm_rI E h a0 (x4 + 2) fun v_2 =>
  (mm_br (v_2 = 0) (
  mm_run E cl mm_m282 n 691 [some (.ref a0), some (.ref a1), some (.ref a2), some (.ref a3), some (.int x4), o5, o6] [.int 0, .int v_1, .ref a1] h) (
  mm_run E cl mm_m282 n 691 [some (.ref a0), some (.ref a1), some (.ref a2), some (.ref a3), some (.int x4), o5, o6] [.int 1, .int v_1, .ref a1] h)) := rfl
-- Law.law
set_option maxRecDepth 20000 in
set_option maxHeartbeats 4000000 in
theorem mm_e282_691 (E : mm_E) (cl : mm_F) (n : Nat) (a0 : Nat) (a1 : Nat) (a2 : Nat) (a3 : Nat) (x4 : Int32) (o5 : Option Value) (o6 : Option Value) (b0 : Nat) (s1 : Int32) (s2 : Int32) (h : mm_H) :
  mm_run E cl mm_m282 (n + 1) 691 [some (.ref a0), some (.ref a1), some (.ref a2), some (.ref a3), some (.int x4), o5, o6] [.int s2, .int s1, .ref b0] h =
  mm_rI E h a0 (x4 + 3) fun v_1 =>
  mm_rI E h a0 (x4 + 4) fun v_2 =>
  mm_cI [] (cl 110 [.ref b0, .int s1, .int s2, .int v_1, .int v_2] h) fun v_4 h_3 =>
  mm_rI E h_3 a0 (x4 + 1) fun v_5 =>
  mm_rI E h_3 a0 (x4 + 2) fun v_6 =>
  (mm_br (v_6 = 0) (
  mm_rI E h_3 a0 (x4 + 3) fun v_7 =>
    mm_rI E h_3 a0 (x4 + 4) fun v_8 =>
    mm_cI [] (cl 174 [.ref a2, .int v_5, .int 0, .int v_7, .int v_8] h_3) fun v_10 h_9 =>
    (mm_br (v_4 = v_10) (
    mm_run E cl mm_m282 n 1812 [some (.ref a0), some (.ref a1), some (.ref a2), some (.ref a3), some (.int x4), o5, o6] [] h_9) (
    (mm_bz 0 (some (.inl (some (.int 0)), h_9)))))) (
  mm_rI E h_3 a0 (x4 + 3) fun v_11 =>
    mm_rI E h_3 a0 (x4 + 4) fun v_12 =>
    mm_cI [] (cl 174 [.ref a2, .int v_5, .int 1, .int v_11, .int v_12] h_3) fun v_14 h_13 =>
    (mm_br (v_4 = v_14) (
    mm_run E cl mm_m282 n 1812 [some (.ref a0), some (.ref a1), some (.ref a2), some (.ref a3), some (.int x4), o5, o6] [] h_13) (
    (mm_bz 0 (some (.inl (some (.int 0)), h_13))))))) := rfl
-- Law.law
set_option maxRecDepth 20000 in
set_option maxHeartbeats 4000000 in
theorem mm_e282_747 (E : mm_E) (cl : mm_F) (n : Nat) (a0 : Nat) (a1 : Nat) (a2 : Nat) (a3 : Nat) (x4 : Int32) (o5 : Option Value) (o6 : Option Value) (h : mm_H) :
  mm_run E cl mm_m282 (n + 1) 747 [some (.ref a0), some (.ref a1), some (.ref a2), some (.ref a3), some (.int x4), o5, o6] [] h =
  mm_rI E h a0 (x4 + 1) fun v_1 =>
  mm_rI E h a0 (x4 + 2) fun v_2 =>
  mm_cI [] (cl 111 [.ref a1, .int v_1, .int v_2] h) fun v_4 h_3 =>
  mm_rI E h_3 a0 (x4 + 1) fun v_5 =>
  mm_rI E h_3 a0 (x4 + 2) fun v_6 =>
  mm_cI [] (cl 175 [.ref a2, .int v_5, .int v_6] h_3) fun v_8 h_7 =>
  (mm_br (v_4 = v_8) (
  mm_run E cl mm_m282 n 1812 [some (.ref a0), some (.ref a1), some (.ref a2), some (.ref a3), some (.int x4), o5, o6] [] h_7) (
  (mm_bz 0 (some (.inl (some (.int 0)), h_7))))) := rfl
-- Law.law
set_option maxRecDepth 20000 in
set_option maxHeartbeats 4000000 in
theorem mm_e282_784 (E : mm_E) (cl : mm_F) (n : Nat) (a0 : Nat) (a1 : Nat) (a2 : Nat) (a3 : Nat) (x4 : Int32) (o5 : Option Value) (o6 : Option Value) (h : mm_H) :
  mm_run E cl mm_m282 (n + 1) 784 [some (.ref a0), some (.ref a1), some (.ref a2), some (.ref a3), some (.int x4), o5, o6] [] h =
  mm_rI E h a0 (x4 + 1) fun v_1 =>
  mm_rI E h a0 (x4 + 2) fun v_2 =>
  mm_cI [] (cl 268 [.ref a1, .int v_1, .int v_2, .ref a3] h) fun v_4 h_3 =>
  mm_rI E h_3 a0 (x4 + 1) fun v_5 =>
  mm_rI E h_3 a0 (x4 + 2) fun v_6 =>
  mm_cI [] (cl 176 [.ref a2, .int v_5, .int v_6] h_3) fun v_8 h_7 =>
  mm_cI [] (cl 145 [.ref a2] h_7) fun v_10 h_9 =>
  (mm_br (v_10 = v_4) (
  (mm_br (v_4 = 0) (
    mm_rJ h_9 a3 0 fun w_11 =>
      (mm_br ((lg_cmp w_11 (Int32.toInt64 v_8)) = 0) (
      mm_run E cl mm_m282 n 1812 [some (.ref a0), some (.ref a1), some (.ref a2), some (.ref a3), some (.int x4), some (.int v_4), some (.int v_8)] [] h_9) (
      (mm_bz 0 (some (.inl (some (.int 0)), h_9)))))) (
    mm_run E cl mm_m282 n 1812 [some (.ref a0), some (.ref a1), some (.ref a2), some (.ref a3), some (.int x4), some (.int v_4), some (.int v_8)] [] h_9))) (
  (mm_bz 0 (some (.inl (some (.int 0)), h_9))))) := rfl
-- Law.law
set_option maxRecDepth 20000 in
set_option maxHeartbeats 4000000 in
theorem mm_e282_852 (E : mm_E) (cl : mm_F) (n : Nat) (a0 : Nat) (a1 : Nat) (a2 : Nat) (a3 : Nat) (x4 : Int32) (o5 : Option Value) (o6 : Option Value) (h : mm_H) :
  mm_run E cl mm_m282 (n + 1) 852 [some (.ref a0), some (.ref a1), some (.ref a2), some (.ref a3), some (.int x4), o5, o6] [] h =
  mm_cI [] (cl 113 [.ref a1] h) fun v_2 h_1 =>
  mm_cI [] (cl 178 [.ref a2] h_1) fun v_4 h_3 =>
  (mm_br (v_2 = v_4) (
  mm_run E cl mm_m282 n 1812 [some (.ref a0), some (.ref a1), some (.ref a2), some (.ref a3), some (.int x4), o5, o6] [] h_3) (
  (mm_bz 0 (some (.inl (some (.int 0)), h_3))))) := rfl
-- Law.law
set_option maxRecDepth 20000 in
set_option maxHeartbeats 4000000 in
theorem mm_e282_865 (E : mm_E) (cl : mm_F) (n : Nat) (a0 : Nat) (a1 : Nat) (a2 : Nat) (a3 : Nat) (x4 : Int32) (o5 : Option Value) (o6 : Option Value) (h : mm_H) :
  mm_run E cl mm_m282 (n + 1) 865 [some (.ref a0), some (.ref a1), some (.ref a2), some (.ref a3), some (.int x4), o5, o6] [] h =
  mm_rI E h a0 (x4 + 1) fun v_1 =>
  mm_cI [] (cl 114 [.ref a1, .int v_1] h) fun v_3 h_2 =>
  mm_rI E h_2 a0 (x4 + 1) fun v_4 =>
  mm_cI [] (cl 190 [.ref a2, .int v_4] h_2) fun v_6 h_5 =>
  (mm_br (v_3 = v_6) (
  mm_run E cl mm_m282 n 1812 [some (.ref a0), some (.ref a1), some (.ref a2), some (.ref a3), some (.int x4), o5, o6] [] h_5) (
  (mm_bz 0 (some (.inl (some (.int 0)), h_5))))) := rfl
-- Law.law
set_option maxRecDepth 20000 in
set_option maxHeartbeats 4000000 in
theorem mm_e282_890 (E : mm_E) (cl : mm_F) (n : Nat) (a0 : Nat) (a1 : Nat) (a2 : Nat) (a3 : Nat) (x4 : Int32) (o5 : Option Value) (o6 : Option Value) (h : mm_H) :
  mm_run E cl mm_m282 (n + 1) 890 [some (.ref a0), some (.ref a1), some (.ref a2), some (.ref a3), some (.int x4), o5, o6] [] h =
  mm_rI E h a0 (x4 + 1) fun v_1 =>
  mm_rI E h a0 (x4 + 2) fun v_2 =>
  mm_cI [] (cl 269 [.ref a1, .int v_1, .int v_2, .ref a3] h) fun v_4 h_3 =>
  mm_rI E h_3 a0 (x4 + 1) fun v_5 =>
  mm_rI E h_3 a0 (x4 + 2) fun v_6 =>
  mm_cI [] (cl 187 [.ref a2, .int v_5, .int v_6] h_3) fun v_8 h_7 =>
  mm_cI [] (cl 145 [.ref a2] h_7) fun v_10 h_9 =>
  (mm_br (v_10 = v_4) (
  (mm_br (v_4 = 0) (
    mm_rJ h_9 a3 0 fun w_11 =>
      (mm_br ((lg_cmp w_11 (Int32.toInt64 v_8)) = 0) (
      mm_run E cl mm_m282 n 1812 [some (.ref a0), some (.ref a1), some (.ref a2), some (.ref a3), some (.int x4), some (.int v_4), some (.int v_8)] [] h_9) (
      (mm_bz 0 (some (.inl (some (.int 0)), h_9)))))) (
    mm_run E cl mm_m282 n 1812 [some (.ref a0), some (.ref a1), some (.ref a2), some (.ref a3), some (.int x4), some (.int v_4), some (.int v_8)] [] h_9))) (
  (mm_bz 0 (some (.inl (some (.int 0)), h_9))))) := rfl
-- Law.law
set_option maxRecDepth 20000 in
set_option maxHeartbeats 4000000 in
theorem mm_e282_958 (E : mm_E) (cl : mm_F) (n : Nat) (a0 : Nat) (a1 : Nat) (a2 : Nat) (a3 : Nat) (x4 : Int32) (o5 : Option Value) (o6 : Option Value) (h : mm_H) :
  mm_run E cl mm_m282 (n + 1) 958 [some (.ref a0), some (.ref a1), some (.ref a2), some (.ref a3), some (.int x4), o5, o6] [] h =
  mm_rI E h a0 (x4 + 1) fun v_1 =>
  mm_rI E h a0 (x4 + 2) fun v_2 =>
  mm_cI [] (cl 270 [.ref a1, .int v_1, .int v_2, .ref a3] h) fun v_4 h_3 =>
  mm_rI E h_3 a0 (x4 + 1) fun v_5 =>
  mm_rI E h_3 a0 (x4 + 2) fun v_6 =>
  mm_cI [] (cl 185 [.ref a2, .int v_5, .int v_6] h_3) fun v_8 h_7 =>
  mm_cI [] (cl 145 [.ref a2] h_7) fun v_10 h_9 =>
  (mm_br (v_10 = v_4) (
  (mm_br (v_4 = 0) (
    mm_rJ h_9 a3 0 fun w_11 =>
      (mm_br ((lg_cmp w_11 (Int32.toInt64 v_8)) = 0) (
      mm_run E cl mm_m282 n 1812 [some (.ref a0), some (.ref a1), some (.ref a2), some (.ref a3), some (.int x4), some (.int v_4), some (.int v_8)] [] h_9) (
      (mm_bz 0 (some (.inl (some (.int 0)), h_9)))))) (
    mm_run E cl mm_m282 n 1812 [some (.ref a0), some (.ref a1), some (.ref a2), some (.ref a3), some (.int x4), some (.int v_4), some (.int v_8)] [] h_9))) (
  (mm_bz 0 (some (.inl (some (.int 0)), h_9))))) := rfl
-- Law.law
set_option maxRecDepth 20000 in
set_option maxHeartbeats 4000000 in
theorem mm_e282_1026 (E : mm_E) (cl : mm_F) (n : Nat) (a0 : Nat) (a1 : Nat) (a2 : Nat) (a3 : Nat) (x4 : Int32) (o5 : Option Value) (o6 : Option Value) (h : mm_H) :
  mm_run E cl mm_m282 (n + 1) 1026 [some (.ref a0), some (.ref a1), some (.ref a2), some (.ref a3), some (.int x4), o5, o6] [] h =
  mm_rI E h a0 (x4 + 1) fun v_1 =>
  mm_cI [] (cl 271 [.ref a1, .int v_1, .ref a3] h) fun v_3 h_2 =>
  mm_rI E h_2 a0 (x4 + 1) fun v_4 =>
  mm_cI [] (cl 186 [.ref a2, .int v_4] h_2) fun v_6 h_5 =>
  mm_cI [] (cl 145 [.ref a2] h_5) fun v_8 h_7 =>
  (mm_br (v_8 = v_3) (
  (mm_br (v_3 = 0) (
    mm_rJ h_7 a3 0 fun w_9 =>
      (mm_br ((lg_cmp w_9 (Int32.toInt64 v_6)) = 0) (
      mm_run E cl mm_m282 n 1812 [some (.ref a0), some (.ref a1), some (.ref a2), some (.ref a3), some (.int x4), some (.int v_3), some (.int v_6)] [] h_7) (
      (mm_bz 0 (some (.inl (some (.int 0)), h_7)))))) (
    mm_run E cl mm_m282 n 1812 [some (.ref a0), some (.ref a1), some (.ref a2), some (.ref a3), some (.int x4), some (.int v_3), some (.int v_6)] [] h_7))) (
  (mm_bz 0 (some (.inl (some (.int 0)), h_7))))) := rfl
-- Law.law
set_option maxRecDepth 20000 in
set_option maxHeartbeats 4000000 in
theorem mm_e282_1082 (E : mm_E) (cl : mm_F) (n : Nat) (a0 : Nat) (a1 : Nat) (a2 : Nat) (a3 : Nat) (x4 : Int32) (o5 : Option Value) (o6 : Option Value) (h : mm_H) :
  mm_run E cl mm_m282 (n + 1) 1082 [some (.ref a0), some (.ref a1), some (.ref a2), some (.ref a3), some (.int x4), o5, o6] [] h =
  mm_cI [] (cl 118 [.ref a1] h) fun v_2 h_1 =>
  mm_cI [] (cl 204 [.ref a2] h_1) fun v_4 h_3 =>
  (mm_br (v_2 = v_4) (
  mm_run E cl mm_m282 n 1812 [some (.ref a0), some (.ref a1), some (.ref a2), some (.ref a3), some (.int x4), o5, o6] [] h_3) (
  (mm_bz 0 (some (.inl (some (.int 0)), h_3))))) := rfl
-- Law.law
set_option maxRecDepth 20000 in
set_option maxHeartbeats 4000000 in
theorem mm_e282_1095 (E : mm_E) (cl : mm_F) (n : Nat) (a0 : Nat) (a1 : Nat) (a2 : Nat) (a3 : Nat) (x4 : Int32) (o5 : Option Value) (o6 : Option Value) (h : mm_H) :
  mm_run E cl mm_m282 (n + 1) 1095 [some (.ref a0), some (.ref a1), some (.ref a2), some (.ref a3), some (.int x4), o5, o6] [] h =
  mm_rI E h a0 (x4 + 1) fun v_1 =>
  mm_rI E h a0 (x4 + 2) fun v_2 =>
  mm_cI [] (cl 272 [.ref a1, .int v_1, .int v_2, .ref a3] h) fun v_4 h_3 =>
  mm_rI E h_3 a0 (x4 + 1) fun v_5 =>
  mm_rI E h_3 a0 (x4 + 2) fun v_6 =>
  mm_cI [] (cl 207 [.ref a2, .int v_5, .int v_6] h_3) fun v_8 h_7 =>
  mm_cI [] (cl 145 [.ref a2] h_7) fun v_10 h_9 =>
  (mm_br (v_10 = v_4) (
  (mm_br (v_4 = 0) (
    mm_rJ h_9 a3 0 fun w_11 =>
      (mm_br ((lg_cmp w_11 (Int32.toInt64 v_8)) = 0) (
      mm_run E cl mm_m282 n 1812 [some (.ref a0), some (.ref a1), some (.ref a2), some (.ref a3), some (.int x4), some (.int v_4), some (.int v_8)] [] h_9) (
      (mm_bz 0 (some (.inl (some (.int 0)), h_9)))))) (
    mm_run E cl mm_m282 n 1812 [some (.ref a0), some (.ref a1), some (.ref a2), some (.ref a3), some (.int x4), some (.int v_4), some (.int v_8)] [] h_9))) (
  (mm_bz 0 (some (.inl (some (.int 0)), h_9))))) := rfl
-- Law.law
set_option maxRecDepth 20000 in
set_option maxHeartbeats 4000000 in
theorem mm_e282_1163 (E : mm_E) (cl : mm_F) (n : Nat) (a0 : Nat) (a1 : Nat) (a2 : Nat) (a3 : Nat) (x4 : Int32) (o5 : Option Value) (o6 : Option Value) (h : mm_H) :
  mm_run E cl mm_m282 (n + 1) 1163 [some (.ref a0), some (.ref a1), some (.ref a2), some (.ref a3), some (.int x4), o5, o6] [] h =
  mm_rI E h a0 (x4 + 1) fun v_1 =>
  mm_cI [] (cl 273 [.ref a1, .int v_1, .ref a3] h) fun v_3 h_2 =>
  mm_rI E h_2 a0 (x4 + 1) fun v_4 =>
  mm_cI [] (cl 209 [.ref a2, .int v_4] h_2) fun v_6 h_5 =>
  mm_cI [] (cl 145 [.ref a2] h_5) fun v_8 h_7 =>
  (mm_br (v_8 = v_3) (
  (mm_br (v_3 = 0) (
    mm_rJ h_7 a3 0 fun w_9 =>
      (mm_br ((lg_cmp w_9 (Int32.toInt64 v_6)) = 0) (
      mm_run E cl mm_m282 n 1812 [some (.ref a0), some (.ref a1), some (.ref a2), some (.ref a3), some (.int x4), some (.int v_3), some (.int v_6)] [] h_7) (
      (mm_bz 0 (some (.inl (some (.int 0)), h_7)))))) (
    mm_run E cl mm_m282 n 1812 [some (.ref a0), some (.ref a1), some (.ref a2), some (.ref a3), some (.int x4), some (.int v_3), some (.int v_6)] [] h_7))) (
  (mm_bz 0 (some (.inl (some (.int 0)), h_7))))) := rfl
-- Law.law
set_option maxRecDepth 20000 in
set_option maxHeartbeats 4000000 in
theorem mm_e282_1219 (E : mm_E) (cl : mm_F) (n : Nat) (a0 : Nat) (a1 : Nat) (a2 : Nat) (a3 : Nat) (x4 : Int32) (o5 : Option Value) (o6 : Option Value) (h : mm_H) :
  mm_run E cl mm_m282 (n + 1) 1219 [some (.ref a0), some (.ref a1), some (.ref a2), some (.ref a3), some (.int x4), o5, o6] [] h =
  mm_rI E h a0 (x4 + 1) fun v_1 =>
  mm_cI [] (cl 121 [.ref a1, .int v_1] h) fun v_3 h_2 =>
  mm_rI E h_2 a0 (x4 + 1) fun v_4 =>
  mm_cI [] (cl 210 [.ref a2, .int v_4] h_2) fun v_6 h_5 =>
  (mm_br (v_3 = v_6) (
  mm_run E cl mm_m282 n 1812 [some (.ref a0), some (.ref a1), some (.ref a2), some (.ref a3), some (.int x4), o5, o6] [] h_5) (
  (mm_bz 0 (some (.inl (some (.int 0)), h_5))))) := rfl
-- Law.law
set_option maxRecDepth 20000 in
set_option maxHeartbeats 4000000 in
theorem mm_e282_1244 (E : mm_E) (cl : mm_F) (n : Nat) (a0 : Nat) (a1 : Nat) (a2 : Nat) (a3 : Nat) (x4 : Int32) (o5 : Option Value) (o6 : Option Value) (h : mm_H) :
  mm_run E cl mm_m282 (n + 1) 1244 [some (.ref a0), some (.ref a1), some (.ref a2), some (.ref a3), some (.int x4), o5, o6] [] h =
  mm_rI E h a0 (x4 + 1) fun v_1 =>
  mm_rI E h a0 (x4 + 2) fun v_2 =>
  mm_cI [] (cl 274 [.ref a1, .int v_1, .int v_2, .ref a3] h) fun v_4 h_3 =>
  mm_rI E h_3 a0 (x4 + 1) fun v_5 =>
  mm_rI E h_3 a0 (x4 + 2) fun v_6 =>
  mm_cI [] (cl 211 [.ref a2, .int v_5, .int v_6] h_3) fun v_8 h_7 =>
  mm_cI [] (cl 145 [.ref a2] h_7) fun v_10 h_9 =>
  (mm_br (v_10 = v_4) (
  (mm_br (v_4 = 0) (
    mm_rJ h_9 a3 0 fun w_11 =>
      (mm_br ((lg_cmp w_11 (Int32.toInt64 v_8)) = 0) (
      mm_run E cl mm_m282 n 1812 [some (.ref a0), some (.ref a1), some (.ref a2), some (.ref a3), some (.int x4), some (.int v_4), some (.int v_8)] [] h_9) (
      (mm_bz 0 (some (.inl (some (.int 0)), h_9)))))) (
    mm_run E cl mm_m282 n 1812 [some (.ref a0), some (.ref a1), some (.ref a2), some (.ref a3), some (.int x4), some (.int v_4), some (.int v_8)] [] h_9))) (
  (mm_bz 0 (some (.inl (some (.int 0)), h_9))))) := rfl
-- Law.law
set_option maxRecDepth 20000 in
set_option maxHeartbeats 4000000 in
theorem mm_e282_1312 (E : mm_E) (cl : mm_F) (n : Nat) (a0 : Nat) (a1 : Nat) (a2 : Nat) (a3 : Nat) (x4 : Int32) (o5 : Option Value) (o6 : Option Value) (h : mm_H) :
  mm_run E cl mm_m282 (n + 1) 1312 [some (.ref a0), some (.ref a1), some (.ref a2), some (.ref a3), some (.int x4), o5, o6] [] h =
  mm_rI E h a0 (x4 + 1) fun v_1 =>
  mm_rI E h a0 (x4 + 2) fun v_2 =>
  mm_rI E h a0 (x4 + 3) fun v_3 =>
  mm_cI [] (cl 275 [.ref a1, .int v_1, .int v_2, .int v_3, .ref a3] h) fun v_5 h_4 =>
  mm_rI E h_4 a0 (x4 + 1) fun v_6 =>
  mm_rI E h_4 a0 (x4 + 2) fun v_7 =>
  mm_rI E h_4 a0 (x4 + 3) fun v_8 =>
  mm_cI [] (cl 214 [.ref a2, .int v_6, .int v_7, .int v_8] h_4) fun v_10 h_9 =>
  mm_cI [] (cl 145 [.ref a2] h_9) fun v_12 h_11 =>
  (mm_br (v_12 = v_5) (
  (mm_br (v_5 = 0) (
    mm_rJ h_11 a3 0 fun w_13 =>
      (mm_br ((lg_cmp w_13 (Int32.toInt64 v_10)) = 0) (
      mm_run E cl mm_m282 n 1812 [some (.ref a0), some (.ref a1), some (.ref a2), some (.ref a3), some (.int x4), some (.int v_5), some (.int v_10)] [] h_11) (
      (mm_bz 0 (some (.inl (some (.int 0)), h_11)))))) (
    mm_run E cl mm_m282 n 1812 [some (.ref a0), some (.ref a1), some (.ref a2), some (.ref a3), some (.int x4), some (.int v_5), some (.int v_10)] [] h_11))) (
  (mm_bz 0 (some (.inl (some (.int 0)), h_11))))) := rfl
-- Law.law
set_option maxRecDepth 20000 in
set_option maxHeartbeats 4000000 in
theorem mm_e282_1392 (E : mm_E) (cl : mm_F) (n : Nat) (a0 : Nat) (a1 : Nat) (a2 : Nat) (a3 : Nat) (x4 : Int32) (o5 : Option Value) (o6 : Option Value) (h : mm_H) :
  mm_run E cl mm_m282 (n + 1) 1392 [some (.ref a0), some (.ref a1), some (.ref a2), some (.ref a3), some (.int x4), o5, o6] [] h =
  mm_rI E h a0 (x4 + 1) fun v_1 =>
  mm_rI E h a0 (x4 + 2) fun v_2 =>
  mm_cI [] (cl 276 [.ref a1, .int v_1, .int v_2, .ref a3] h) fun v_4 h_3 =>
  mm_rI E h_3 a0 (x4 + 1) fun v_5 =>
  mm_rI E h_3 a0 (x4 + 2) fun v_6 =>
  mm_cI [] (cl 216 [.ref a2, .int v_5, .int v_6] h_3) fun v_8 h_7 =>
  mm_cI [] (cl 145 [.ref a2] h_7) fun v_10 h_9 =>
  (mm_br (v_10 = v_4) (
  (mm_br (v_4 = 0) (
    mm_rJ h_9 a3 0 fun w_11 =>
      (mm_br ((lg_cmp w_11 (Int32.toInt64 v_8)) = 0) (
      mm_run E cl mm_m282 n 1812 [some (.ref a0), some (.ref a1), some (.ref a2), some (.ref a3), some (.int x4), some (.int v_4), some (.int v_8)] [] h_9) (
      (mm_bz 0 (some (.inl (some (.int 0)), h_9)))))) (
    mm_run E cl mm_m282 n 1812 [some (.ref a0), some (.ref a1), some (.ref a2), some (.ref a3), some (.int x4), some (.int v_4), some (.int v_8)] [] h_9))) (
  (mm_bz 0 (some (.inl (some (.int 0)), h_9))))) := rfl
-- Law.law
set_option maxRecDepth 20000 in
set_option maxHeartbeats 4000000 in
theorem mm_e282_1460 (E : mm_E) (cl : mm_F) (n : Nat) (a0 : Nat) (a1 : Nat) (a2 : Nat) (a3 : Nat) (x4 : Int32) (o5 : Option Value) (o6 : Option Value) (h : mm_H) :
  mm_run E cl mm_m282 (n + 1) 1460 [some (.ref a0), some (.ref a1), some (.ref a2), some (.ref a3), some (.int x4), o5, o6] [] h =
  mm_rI E h a0 (x4 + 1) fun v_1 =>
  mm_rI E h a0 (x4 + 2) fun v_2 =>
  mm_rI E h a0 (x4 + 3) fun v_3 =>
  mm_cI [] (cl 277 [.ref a1, .int v_1, .int v_2, .int v_3, .ref a3] h) fun v_5 h_4 =>
  mm_rI E h_4 a0 (x4 + 1) fun v_6 =>
  mm_rI E h_4 a0 (x4 + 2) fun v_7 =>
  mm_rI E h_4 a0 (x4 + 3) fun v_8 =>
  mm_cI [] (cl 221 [.ref a2, .int v_6, .int v_7, .int v_8] h_4) fun v_10 h_9 =>
  mm_cI [] (cl 145 [.ref a2] h_9) fun v_12 h_11 =>
  (mm_br (v_12 = v_5) (
  (mm_br (v_5 = 0) (
    mm_rJ h_11 a3 0 fun w_13 =>
      (mm_br ((lg_cmp w_13 (Int32.toInt64 v_10)) = 0) (
      mm_run E cl mm_m282 n 1812 [some (.ref a0), some (.ref a1), some (.ref a2), some (.ref a3), some (.int x4), some (.int v_5), some (.int v_10)] [] h_11) (
      (mm_bz 0 (some (.inl (some (.int 0)), h_11)))))) (
    mm_run E cl mm_m282 n 1812 [some (.ref a0), some (.ref a1), some (.ref a2), some (.ref a3), some (.int x4), some (.int v_5), some (.int v_10)] [] h_11))) (
  (mm_bz 0 (some (.inl (some (.int 0)), h_11))))) := rfl
-- Law.law
set_option maxRecDepth 20000 in
set_option maxHeartbeats 4000000 in
theorem mm_e282_1540 (E : mm_E) (cl : mm_F) (n : Nat) (a0 : Nat) (a1 : Nat) (a2 : Nat) (a3 : Nat) (x4 : Int32) (o5 : Option Value) (o6 : Option Value) (h : mm_H) :
  mm_run E cl mm_m282 (n + 1) 1540 [some (.ref a0), some (.ref a1), some (.ref a2), some (.ref a3), some (.int x4), o5, o6] [] h =
  mm_rI E h a0 (x4 + 1) fun v_1 =>
  mm_rI E h a0 (x4 + 2) fun v_2 =>
  mm_cI [] (cl 278 [.ref a1, .int v_1, .int v_2, .ref a3] h) fun v_4 h_3 =>
  mm_rI E h_3 a0 (x4 + 1) fun v_5 =>
  mm_rI E h_3 a0 (x4 + 2) fun v_6 =>
  mm_cI [] (cl 222 [.ref a2, .int v_5, .int v_6] h_3) fun v_8 h_7 =>
  mm_cI [] (cl 145 [.ref a2] h_7) fun v_10 h_9 =>
  (mm_br (v_10 = v_4) (
  (mm_br (v_4 = 0) (
    mm_rJ h_9 a3 0 fun w_11 =>
      (mm_br ((lg_cmp w_11 (Int32.toInt64 v_8)) = 0) (
      mm_run E cl mm_m282 n 1812 [some (.ref a0), some (.ref a1), some (.ref a2), some (.ref a3), some (.int x4), some (.int v_4), some (.int v_8)] [] h_9) (
      (mm_bz 0 (some (.inl (some (.int 0)), h_9)))))) (
    mm_run E cl mm_m282 n 1812 [some (.ref a0), some (.ref a1), some (.ref a2), some (.ref a3), some (.int x4), some (.int v_4), some (.int v_8)] [] h_9))) (
  (mm_bz 0 (some (.inl (some (.int 0)), h_9))))) := rfl
-- Law.law
set_option maxRecDepth 20000 in
set_option maxHeartbeats 4000000 in
theorem mm_e282_1608 (E : mm_E) (cl : mm_F) (n : Nat) (a0 : Nat) (a1 : Nat) (a2 : Nat) (a3 : Nat) (x4 : Int32) (o5 : Option Value) (o6 : Option Value) (h : mm_H) :
  mm_run E cl mm_m282 (n + 1) 1608 [some (.ref a0), some (.ref a1), some (.ref a2), some (.ref a3), some (.int x4), o5, o6] [] h =
  mm_rI E h a0 (x4 + 1) fun v_1 =>
  mm_cI [] (cl 279 [.ref a1, .int v_1, .ref a3] h) fun v_3 h_2 =>
  mm_rI E h_2 a0 (x4 + 1) fun v_4 =>
  mm_cI [] (cl 261 [.ref a2, .int v_4] h_2) fun v_6 h_5 =>
  mm_cI [] (cl 145 [.ref a2] h_5) fun v_8 h_7 =>
  (mm_br (v_8 = v_3) (
  (mm_br (v_3 = 0) (
    mm_rJ h_7 a3 0 fun w_9 =>
      (mm_br ((lg_cmp w_9 (Int32.toInt64 v_6)) = 0) (
      mm_run E cl mm_m282 n 1812 [some (.ref a0), some (.ref a1), some (.ref a2), some (.ref a3), some (.int x4), some (.int v_3), some (.int v_6)] [] h_7) (
      (mm_bz 0 (some (.inl (some (.int 0)), h_7)))))) (
    mm_run E cl mm_m282 n 1812 [some (.ref a0), some (.ref a1), some (.ref a2), some (.ref a3), some (.int x4), some (.int v_3), some (.int v_6)] [] h_7))) (
  (mm_bz 0 (some (.inl (some (.int 0)), h_7))))) := rfl
-- Law.law
set_option maxRecDepth 20000 in
set_option maxHeartbeats 4000000 in
theorem mm_e282_1664 (E : mm_E) (cl : mm_F) (n : Nat) (a0 : Nat) (a1 : Nat) (a2 : Nat) (a3 : Nat) (x4 : Int32) (o5 : Option Value) (o6 : Option Value) (h : mm_H) :
  mm_run E cl mm_m282 (n + 1) 1664 [some (.ref a0), some (.ref a1), some (.ref a2), some (.ref a3), some (.int x4), o5, o6] [] h =
  mm_rI E h a0 (x4 + 1) fun v_1 =>
  mm_rI E h a0 (x4 + 2) fun v_2 =>
  mm_cI [] (cl 280 [.ref a1, .int v_1, .int v_2, .ref a3] h) fun v_4 h_3 =>
  mm_rI E h_3 a0 (x4 + 1) fun v_5 =>
  mm_rI E h_3 a0 (x4 + 2) fun v_6 =>
  mm_cI [] (cl 224 [.ref a2, .int v_5, .int v_6] h_3) fun v_8 h_7 =>
  mm_cI [] (cl 145 [.ref a2] h_7) fun v_10 h_9 =>
  (mm_br (v_10 = v_4) (
  (mm_br (v_4 = 0) (
    mm_rJ h_9 a3 0 fun w_11 =>
      (mm_br ((lg_cmp w_11 (Int32.toInt64 v_8)) = 0) (
      mm_run E cl mm_m282 n 1812 [some (.ref a0), some (.ref a1), some (.ref a2), some (.ref a3), some (.int x4), some (.int v_4), some (.int v_8)] [] h_9) (
      (mm_bz 0 (some (.inl (some (.int 0)), h_9)))))) (
    mm_run E cl mm_m282 n 1812 [some (.ref a0), some (.ref a1), some (.ref a2), some (.ref a3), some (.int x4), some (.int v_4), some (.int v_8)] [] h_9))) (
  (mm_bz 0 (some (.inl (some (.int 0)), h_9))))) := rfl
-- Law.law
set_option maxRecDepth 20000 in
set_option maxHeartbeats 4000000 in
theorem mm_e282_1732 (E : mm_E) (cl : mm_F) (n : Nat) (a0 : Nat) (a1 : Nat) (a2 : Nat) (a3 : Nat) (x4 : Int32) (o5 : Option Value) (o6 : Option Value) (h : mm_H) :
  mm_run E cl mm_m282 (n + 1) 1732 [some (.ref a0), some (.ref a1), some (.ref a2), some (.ref a3), some (.int x4), o5, o6] [] h =
  mm_rI E h a0 (x4 + 1) fun v_1 =>
  mm_cI [] (cl 281 [.ref a1, .int v_1, .ref a3] h) fun v_3 h_2 =>
  mm_rI E h_2 a0 (x4 + 1) fun v_4 =>
  mm_cI [] (cl 213 [.ref a2, .int v_4] h_2) fun v_6 h_5 =>
  mm_cI [] (cl 145 [.ref a2] h_5) fun v_8 h_7 =>
  (mm_br (v_8 = v_3) (
  (mm_br (v_3 = 0) (
    mm_rJ h_7 a3 0 fun w_9 =>
      (mm_br ((lg_cmp w_9 (Int32.toInt64 v_6)) = 0) (
      mm_run E cl mm_m282 n 1812 [some (.ref a0), some (.ref a1), some (.ref a2), some (.ref a3), some (.int x4), some (.int v_3), some (.int v_6)] [] h_7) (
      (mm_bz 0 (some (.inl (some (.int 0)), h_7)))))) (
    mm_run E cl mm_m282 n 1812 [some (.ref a0), some (.ref a1), some (.ref a2), some (.ref a3), some (.int x4), some (.int v_3), some (.int v_6)] [] h_7))) (
  (mm_bz 0 (some (.inl (some (.int 0)), h_7))))) := rfl
-- Law.law
set_option maxRecDepth 20000 in
set_option maxHeartbeats 4000000 in
theorem mm_e282_1788 (E : mm_E) (cl : mm_F) (n : Nat) (a0 : Nat) (a1 : Nat) (a2 : Nat) (a3 : Nat) (x4 : Int32) (o5 : Option Value) (o6 : Option Value) (h : mm_H) :
  mm_run E cl mm_m282 (n + 1) 1788 [some (.ref a0), some (.ref a1), some (.ref a2), some (.ref a3), some (.int x4), o5, o6] [] h =
  mm_cV [] (cl 130 [.ref a1] h) fun h_1 =>
  mm_cV [] (cl 226 [.ref a2] h_1) fun h_2 =>
  mm_run E cl mm_m282 n 1812 [some (.ref a0), some (.ref a1), some (.ref a2), some (.ref a3), some (.int x4), o5, o6] [] h_2 := rfl
-- Law.law
set_option maxRecDepth 20000 in
set_option maxHeartbeats 4000000 in
theorem mm_e282_1799 (E : mm_E) (cl : mm_F) (n : Nat) (a0 : Nat) (a1 : Nat) (a2 : Nat) (a3 : Nat) (x4 : Int32) (o5 : Option Value) (o6 : Option Value) (h : mm_H) :
  mm_run E cl mm_m282 (n + 1) 1799 [some (.ref a0), some (.ref a1), some (.ref a2), some (.ref a3), some (.int x4), o5, o6] [] h =
  mm_cI [] (cl 131 [.ref a1] h) fun v_2 h_1 =>
  mm_cI [] (cl 227 [.ref a2] h_1) fun v_4 h_3 =>
  (mm_br (v_2 = v_4) (
  mm_run E cl mm_m282 n 1812 [some (.ref a0), some (.ref a1), some (.ref a2), some (.ref a3), some (.int x4), o5, o6] [] h_3) (
  (mm_bz 0 (some (.inl (some (.int 0)), h_3))))) := rfl
-- Law.law
set_option maxRecDepth 20000 in
set_option maxHeartbeats 4000000 in
theorem mm_e282_1812 (E : mm_E) (cl : mm_F) (n : Nat) (a0 : Nat) (a1 : Nat) (a2 : Nat) (a3 : Nat) (x4 : Int32) (o5 : Option Value) (o6 : Option Value) (h : mm_H) :
  mm_run E cl mm_m282 (n + 1) 1812 [some (.ref a0), some (.ref a1), some (.ref a2), some (.ref a3), some (.int x4), o5, o6] [] h =
  mm_run E cl mm_m282 n 23 [some (.ref a0), some (.ref a1), some (.ref a2), some (.ref a3), some (.int (x4 + 6)), o5, o6] [] h := rfl
-- Int.bitCount
set_option maxRecDepth 20000 in
set_option maxHeartbeats 4000000 in
theorem mm_e283_0 (E : mm_E) (cl : mm_F) (n : Nat) (x0 : Int32) (h : mm_H) :
  mm_run E cl mm_m283 (n + 1) 0 [some (.int x0)] [] h =
  some (.inl (some (.int ((((((((x0 - ((((x0).toUInt32 >>> ((1 : Int32).toUInt32 &&& Int32.toUInt32 31)).toInt32) &&& 1431655765)) &&& 858993459) + (((((x0 - ((((x0).toUInt32 >>> ((1 : Int32).toUInt32 &&& Int32.toUInt32 31)).toInt32) &&& 1431655765))).toUInt32 >>> ((2 : Int32).toUInt32 &&& Int32.toUInt32 31)).toInt32) &&& 858993459)) + ((((((x0 - ((((x0).toUInt32 >>> ((1 : Int32).toUInt32 &&& Int32.toUInt32 31)).toInt32) &&& 1431655765)) &&& 858993459) + (((((x0 - ((((x0).toUInt32 >>> ((1 : Int32).toUInt32 &&& Int32.toUInt32 31)).toInt32) &&& 1431655765))).toUInt32 >>> ((2 : Int32).toUInt32 &&& Int32.toUInt32 31)).toInt32) &&& 858993459))).toUInt32 >>> ((4 : Int32).toUInt32 &&& Int32.toUInt32 31)).toInt32)) &&& 252645135) + ((((((((x0 - ((((x0).toUInt32 >>> ((1 : Int32).toUInt32 &&& Int32.toUInt32 31)).toInt32) &&& 1431655765)) &&& 858993459) + (((((x0 - ((((x0).toUInt32 >>> ((1 : Int32).toUInt32 &&& Int32.toUInt32 31)).toInt32) &&& 1431655765))).toUInt32 >>> ((2 : Int32).toUInt32 &&& Int32.toUInt32 31)).toInt32) &&& 858993459)) + ((((((x0 - ((((x0).toUInt32 >>> ((1 : Int32).toUInt32 &&& Int32.toUInt32 31)).toInt32) &&& 1431655765)) &&& 858993459) + (((((x0 - ((((x0).toUInt32 >>> ((1 : Int32).toUInt32 &&& Int32.toUInt32 31)).toInt32) &&& 1431655765))).toUInt32 >>> ((2 : Int32).toUInt32 &&& Int32.toUInt32 31)).toInt32) &&& 858993459))).toUInt32 >>> ((4 : Int32).toUInt32 &&& Int32.toUInt32 31)).toInt32)) &&& 252645135)).toUInt32 >>> ((8 : Int32).toUInt32 &&& Int32.toUInt32 31)).toInt32)) + (((((((((x0 - ((((x0).toUInt32 >>> ((1 : Int32).toUInt32 &&& Int32.toUInt32 31)).toInt32) &&& 1431655765)) &&& 858993459) + (((((x0 - ((((x0).toUInt32 >>> ((1 : Int32).toUInt32 &&& Int32.toUInt32 31)).toInt32) &&& 1431655765))).toUInt32 >>> ((2 : Int32).toUInt32 &&& Int32.toUInt32 31)).toInt32) &&& 858993459)) + ((((((x0 - ((((x0).toUInt32 >>> ((1 : Int32).toUInt32 &&& Int32.toUInt32 31)).toInt32) &&& 1431655765)) &&& 858993459) + (((((x0 - ((((x0).toUInt32 >>> ((1 : Int32).toUInt32 &&& Int32.toUInt32 31)).toInt32) &&& 1431655765))).toUInt32 >>> ((2 : Int32).toUInt32 &&& Int32.toUInt32 31)).toInt32) &&& 858993459))).toUInt32 >>> ((4 : Int32).toUInt32 &&& Int32.toUInt32 31)).toInt32)) &&& 252645135) + ((((((((x0 - ((((x0).toUInt32 >>> ((1 : Int32).toUInt32 &&& Int32.toUInt32 31)).toInt32) &&& 1431655765)) &&& 858993459) + (((((x0 - ((((x0).toUInt32 >>> ((1 : Int32).toUInt32 &&& Int32.toUInt32 31)).toInt32) &&& 1431655765))).toUInt32 >>> ((2 : Int32).toUInt32 &&& Int32.toUInt32 31)).toInt32) &&& 858993459)) + ((((((x0 - ((((x0).toUInt32 >>> ((1 : Int32).toUInt32 &&& Int32.toUInt32 31)).toInt32) &&& 1431655765)) &&& 858993459) + (((((x0 - ((((x0).toUInt32 >>> ((1 : Int32).toUInt32 &&& Int32.toUInt32 31)).toInt32) &&& 1431655765))).toUInt32 >>> ((2 : Int32).toUInt32 &&& Int32.toUInt32 31)).toInt32) &&& 858993459))).toUInt32 >>> ((4 : Int32).toUInt32 &&& Int32.toUInt32 31)).toInt32)) &&& 252645135)).toUInt32 >>> ((8 : Int32).toUInt32 &&& Int32.toUInt32 31)).toInt32))).toUInt32 >>> ((16 : Int32).toUInt32 &&& Int32.toUInt32 31)).toInt32)) &&& 63))), h) := rfl
-- Math.max
set_option maxRecDepth 20000 in
set_option maxHeartbeats 4000000 in
theorem mm_e284_0 (E : mm_E) (cl : mm_F) (n : Nat) (x0 : Int32) (x1 : Int32) (h : mm_H) :
  mm_run E cl mm_m284 (n + 1) 0 [some (.int x0), some (.int x1)] [] h =
  (mm_br (x0 < x1) (
  some (.inl (some (.int x1)), h)) (
  some (.inl (some (.int x0)), h))) := rfl
-- Math.min
set_option maxRecDepth 20000 in
set_option maxHeartbeats 4000000 in
theorem mm_e285_0 (E : mm_E) (cl : mm_F) (n : Nat) (x0 : Int32) (x1 : Int32) (h : mm_H) :
  mm_run E cl mm_m285 (n + 1) 0 [some (.int x0), some (.int x1)] [] h =
  (mm_br (x1 < x0) (
  some (.inl (some (.int x1)), h)) (
  some (.inl (some (.int x0)), h))) := rfl
-- Arr.fill
set_option maxRecDepth 20000 in
set_option maxHeartbeats 4000000 in
theorem mm_e286_0 (E : mm_E) (cl : mm_F) (n : Nat) (a0 : Nat) (x1 : Int32) (h : mm_H) :
  mm_run E cl mm_m286 (n + 1) 0 [some (.ref a0), some (.int x1), none, none] [] h =
  mm_ln E h a0 fun v_1 =>
  mm_run E cl mm_m286 n 5 [some (.ref a0), some (.int x1), some (.int 0), some (.int v_1)] [] h := rfl
-- Arr.fill
set_option maxRecDepth 20000 in
set_option maxHeartbeats 4000000 in
theorem mm_e286_5 (E : mm_E) (cl : mm_F) (n : Nat) (a0 : Nat) (x1 : Int32) (x2 : Int32) (x3 : Int32) (h : mm_H) :
  mm_run E cl mm_m286 (n + 1) 5 [some (.ref a0), some (.int x1), some (.int x2), some (.int x3)] [] h =
  (mm_br (x3 ≤ x2) (
  some (.inl none, h)) (
  mm_wI h a0 x2 x1 fun h_1 =>
    mm_run E cl mm_m286 n 5 [some (.ref a0), some (.int x1), some (.int (x2 + 1)), some (.int x3)] [] h_1)) := rfl
