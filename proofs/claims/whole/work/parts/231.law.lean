-- the law
set_option maxRecDepth 20000 in
set_option maxHeartbeats 4000000 in
theorem mm_e282_393 (E : mm_E) (cl : mm_F) (n : Nat) (a0 : Nat) (a1 : Nat) (a2 : Nat) (a3 : Nat) (x4 : Int32) (x5 : Int32) (o6 : Option Value) (h : mm_H) :
  mm_r282_393 E cl (n + 1) a0 a1 a2 a3 x4 x5 o6 h =
  mm_rI E h a0 (x4 + (mm_i 1)) fun v_1 =>
  mm_rI E h a0 (x4 + (mm_i 2)) fun v_2 =>
  mm_cI [] (cl 169 [.ref a2, .int v_1, .int v_2] h) fun v_4 h_3 =>
  mm_cI [] (cl 145 [.ref a2] h_3) fun v_6 h_5 =>
  (mm_br (v_6 = x5) (
  (mm_br (x5 = (mm_i 0)) (
    mm_r282_427 E cl n a0 a1 a2 a3 x4 x5 v_4 h_5) (
    mm_r282_1812 E cl n a0 a1 a2 a3 x4 (some (.int x5)) (some (.int v_4)) h_5))) (
  (mm_bz (mm_i 0) (some (.inl (some (.int (mm_i 0))), h_5))))) := (rfl)
set_option maxRecDepth 20000 in
set_option maxHeartbeats 4000000 in
theorem mm_e282_427 (E : mm_E) (cl : mm_F) (n : Nat) (a0 : Nat) (a1 : Nat) (a2 : Nat) (a3 : Nat) (x4 : Int32) (x5 : Int32) (x6 : Int32) (h : mm_H) :
  mm_r282_427 E cl (n + 1) a0 a1 a2 a3 x4 x5 x6 h =
  mm_rJ h a3 (mm_i 0) fun w_1 =>
  (mm_br ((lg_cmp w_1 (Int32.toInt64 x6)) = (mm_i 0)) (
  mm_r282_1812 E cl n a0 a1 a2 a3 x4 (some (.int x5)) (some (.int x6)) h) (
  (mm_bz (mm_i 0) (some (.inl (some (.int (mm_i 0))), h))))) := (rfl)
set_option maxRecDepth 20000 in
set_option maxHeartbeats 4000000 in
theorem mm_e282_442 (E : mm_E) (cl : mm_F) (n : Nat) (a0 : Nat) (a1 : Nat) (a2 : Nat) (a3 : Nat) (x4 : Int32) (o5 : Option Value) (o6 : Option Value) (h : mm_H) :
  mm_r282_442 E cl (n + 1) a0 a1 a2 a3 x4 o5 o6 h =
  mm_rI E h a0 (x4 + (mm_i 1)) fun v_1 =>
  mm_rI E h a0 (x4 + (mm_i 2)) fun v_2 =>
  mm_cI [] (cl 265 [.ref a1, .int v_1, .int v_2, .ref a3] h) fun v_4 h_3 =>
  mm_r282_461 E cl n a0 a1 a2 a3 x4 v_4 o6 h_3 := (rfl)
set_option maxRecDepth 20000 in
set_option maxHeartbeats 4000000 in
theorem mm_e282_461 (E : mm_E) (cl : mm_F) (n : Nat) (a0 : Nat) (a1 : Nat) (a2 : Nat) (a3 : Nat) (x4 : Int32) (x5 : Int32) (o6 : Option Value) (h : mm_H) :
  mm_r282_461 E cl (n + 1) a0 a1 a2 a3 x4 x5 o6 h =
  mm_rI E h a0 (x4 + (mm_i 1)) fun v_1 =>
  mm_rI E h a0 (x4 + (mm_i 2)) fun v_2 =>
  mm_cI [] (cl 170 [.ref a2, .int v_1, .int v_2] h) fun v_4 h_3 =>
  mm_cI [] (cl 145 [.ref a2] h_3) fun v_6 h_5 =>
  (mm_br (v_6 = x5) (
  (mm_br (x5 = (mm_i 0)) (
    mm_r282_495 E cl n a0 a1 a2 a3 x4 x5 v_4 h_5) (
    mm_r282_1812 E cl n a0 a1 a2 a3 x4 (some (.int x5)) (some (.int v_4)) h_5))) (
  (mm_bz (mm_i 0) (some (.inl (some (.int (mm_i 0))), h_5))))) := (rfl)
set_option maxRecDepth 20000 in
set_option maxHeartbeats 4000000 in
theorem mm_e282_495 (E : mm_E) (cl : mm_F) (n : Nat) (a0 : Nat) (a1 : Nat) (a2 : Nat) (a3 : Nat) (x4 : Int32) (x5 : Int32) (x6 : Int32) (h : mm_H) :
  mm_r282_495 E cl (n + 1) a0 a1 a2 a3 x4 x5 x6 h =
  mm_rJ h a3 (mm_i 0) fun w_1 =>
  (mm_br ((lg_cmp w_1 (Int32.toInt64 x6)) = (mm_i 0)) (
  mm_r282_1812 E cl n a0 a1 a2 a3 x4 (some (.int x5)) (some (.int x6)) h) (
  (mm_bz (mm_i 0) (some (.inl (some (.int (mm_i 0))), h))))) := (rfl)
set_option maxRecDepth 20000 in
set_option maxHeartbeats 4000000 in
theorem mm_e282_510 (E : mm_E) (cl : mm_F) (n : Nat) (a0 : Nat) (a1 : Nat) (a2 : Nat) (a3 : Nat) (x4 : Int32) (o5 : Option Value) (o6 : Option Value) (h : mm_H) :
  mm_r282_510 E cl (n + 1) a0 a1 a2 a3 x4 o5 o6 h =
  mm_rI E h a0 (x4 + (mm_i 1)) fun v_1 =>
  mm_rI E h a0 (x4 + (mm_i 2)) fun v_2 =>
  mm_rI E h a0 (x4 + (mm_i 3)) fun v_3 =>
  mm_cI [] (cl 266 [.ref a1, .int v_1, .int v_2, .int v_3, .ref a3] h) fun v_5 h_4 =>
  mm_r282_535 E cl n a0 a1 a2 a3 x4 v_5 o6 h_4 := (rfl)
set_option maxRecDepth 20000 in
set_option maxHeartbeats 4000000 in
theorem mm_e282_535 (E : mm_E) (cl : mm_F) (n : Nat) (a0 : Nat) (a1 : Nat) (a2 : Nat) (a3 : Nat) (x4 : Int32) (x5 : Int32) (o6 : Option Value) (h : mm_H) :
  mm_r282_535 E cl (n + 1) a0 a1 a2 a3 x4 x5 o6 h =
  mm_rI E h a0 (x4 + (mm_i 1)) fun v_1 =>
  mm_rI E h a0 (x4 + (mm_i 2)) fun v_2 =>
  mm_rI E h a0 (x4 + (mm_i 3)) fun v_3 =>
  mm_cI [] (cl 167 [.ref a2, .int v_1, .int v_2, .int v_3] h) fun v_5 h_4 =>
  mm_r282_559 E cl n a0 a1 a2 a3 x4 x5 v_5 h_4 := (rfl)
set_option maxRecDepth 20000 in
set_option maxHeartbeats 4000000 in
theorem mm_e282_559 (E : mm_E) (cl : mm_F) (n : Nat) (a0 : Nat) (a1 : Nat) (a2 : Nat) (a3 : Nat) (x4 : Int32) (x5 : Int32) (x6 : Int32) (h : mm_H) :
  mm_r282_559 E cl (n + 1) a0 a1 a2 a3 x4 x5 x6 h =
  mm_cI [] (cl 145 [.ref a2] h) fun v_2 h_1 =>
  (mm_br (v_2 = x5) (
  mm_r282_570 E cl n a0 a1 a2 a3 x4 x5 x6 h_1) (
  (mm_bz (mm_i 0) (some (.inl (some (.int (mm_i 0))), h_1))))) := (rfl)
set_option maxRecDepth 20000 in
set_option maxHeartbeats 4000000 in
theorem mm_e282_570 (E : mm_E) (cl : mm_F) (n : Nat) (a0 : Nat) (a1 : Nat) (a2 : Nat) (a3 : Nat) (x4 : Int32) (x5 : Int32) (x6 : Int32) (h : mm_H) :
  mm_r282_570 E cl (n + 1) a0 a1 a2 a3 x4 x5 x6 h =
  (mm_br (x5 = (mm_i 0)) (
  mm_rJ h a3 (mm_i 0) fun w_1 =>
    (mm_br ((lg_cmp w_1 (Int32.toInt64 x6)) = (mm_i 0)) (
    mm_r282_1812 E cl n a0 a1 a2 a3 x4 (some (.int x5)) (some (.int x6)) h) (
    (mm_bz (mm_i 0) (some (.inl (some (.int (mm_i 0))), h)))))) (
  mm_r282_1812 E cl n a0 a1 a2 a3 x4 (some (.int x5)) (some (.int x6)) h)) := (rfl)
