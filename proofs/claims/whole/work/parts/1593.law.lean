-- the law
set_option maxRecDepth 20000 in
set_option maxHeartbeats 4000000 in
theorem mm_e282_461 (E : mm_E) (cl : mm_F) (n : Nat) (a0 : Nat) (a1 : Nat) (a2 : Nat) (a3 : Nat) (x4 : Int32) (x5 : Int32) (o6 : Option Value) (h : mm_H) :
  mm_r282_461 E cl (n + 1) a0 a1 a2 a3 x4 x5 o6 h =
  mm_rI E h a0 (x4 + (mm_i 1)) fun v_1 =>
  mm_rI E h a0 (x4 + (mm_i 2)) fun v_2 =>
  mm_cI [] (cl 170 [.ref a2, .int v_1, .int v_2] h) fun v_4 h_3 =>
  mm_cI [] (cl 145 [.ref a2] h_3) fun v_6 h_5 =>
  (mm_br (v_6 = x5) (
  (mm_br (x5 = (mm_i 0)) (
    mm_r282_495 E cl n a0 a1 a2 a3 x4 x5 v_4 h_5) (
    mm_r282_1812 E cl n a0 a1 a2 a3 x4 (some (.int x5)) (some (.int v_4)) h_5))) (
  (mm_bz (mm_i 0) (some (.inl (some (.int (mm_i 0))), h_5))))) := (rfl)
set_option maxRecDepth 20000 in
set_option maxHeartbeats 4000000 in
theorem mm_e282_495 (E : mm_E) (cl : mm_F) (n : Nat) (a0 : Nat) (a1 : Nat) (a2 : Nat) (a3 : Nat) (x4 : Int32) (x5 : Int32) (x6 : Int32) (h : mm_H) :
  mm_r282_495 E cl (n + 1) a0 a1 a2 a3 x4 x5 x6 h =
  mm_rJ h a3 (mm_i 0) fun w_1 =>
  (mm_br ((lg_cmp w_1 (Int32.toInt64 x6)) = (mm_i 0)) (
  mm_r282_1812 E cl n a0 a1 a2 a3 x4 (some (.int x5)) (some (.int x6)) h) (
  (mm_bz (mm_i 0) (some (.inl (some (.int (mm_i 0))), h))))) := (rfl)
set_option maxRecDepth 20000 in
set_option maxHeartbeats 4000000 in
theorem mm_e282_510 (E : mm_E) (cl : mm_F) (n : Nat) (a0 : Nat) (a1 : Nat) (a2 : Nat) (a3 : Nat) (x4 : Int32) (o5 : Option Value) (o6 : Option Value) (h : mm_H) :
  mm_r282_510 E cl (n + 1) a0 a1 a2 a3 x4 o5 o6 h =
  mm_rI E h a0 (x4 + (mm_i 1)) fun v_1 =>
  mm_rI E h a0 (x4 + (mm_i 2)) fun v_2 =>
  mm_rI E h a0 (x4 + (mm_i 3)) fun v_3 =>
  mm_cI [] (cl 266 [.ref a1, .int v_1, .int v_2, .int v_3, .ref a3] h) fun v_5 h_4 =>
  mm_r282_535 E cl n a0 a1 a2 a3 x4 v_5 o6 h_4 := (rfl)
set_option maxRecDepth 20000 in
set_option maxHeartbeats 4000000 in
theorem mm_e282_535 (E : mm_E) (cl : mm_F) (n : Nat) (a0 : Nat) (a1 : Nat) (a2 : Nat) (a3 : Nat) (x4 : Int32) (x5 : Int32) (o6 : Option Value) (h : mm_H) :
  mm_r282_535 E cl (n + 1) a0 a1 a2 a3 x4 x5 o6 h =
  mm_rI E h a0 (x4 + (mm_i 1)) fun v_1 =>
  mm_rI E h a0 (x4 + (mm_i 2)) fun v_2 =>
  mm_rI E h a0 (x4 + (mm_i 3)) fun v_3 =>
  mm_cI [] (cl 167 [.ref a2, .int v_1, .int v_2, .int v_3] h) fun v_5 h_4 =>
  mm_r282_559 E cl n a0 a1 a2 a3 x4 x5 v_5 h_4 := (rfl)
set_option maxRecDepth 20000 in
set_option maxHeartbeats 4000000 in
theorem mm_e282_559 (E : mm_E) (cl : mm_F) (n : Nat) (a0 : Nat) (a1 : Nat) (a2 : Nat) (a3 : Nat) (x4 : Int32) (x5 : Int32) (x6 : Int32) (h : mm_H) :
  mm_r282_559 E cl (n + 1) a0 a1 a2 a3 x4 x5 x6 h =
  mm_cI [] (cl 145 [.ref a2] h) fun v_2 h_1 =>
  (mm_br (v_2 = x5) (
  mm_r282_570 E cl n a0 a1 a2 a3 x4 x5 x6 h_1) (
  (mm_bz (mm_i 0) (some (.inl (some (.int (mm_i 0))), h_1))))) := (rfl)
set_option maxRecDepth 20000 in
set_option maxHeartbeats 4000000 in
theorem mm_e282_570 (E : mm_E) (cl : mm_F) (n : Nat) (a0 : Nat) (a1 : Nat) (a2 : Nat) (a3 : Nat) (x4 : Int32) (x5 : Int32) (x6 : Int32) (h : mm_H) :
  mm_r282_570 E cl (n + 1) a0 a1 a2 a3 x4 x5 x6 h =
  (mm_br (x5 = (mm_i 0)) (
  mm_rJ h a3 (mm_i 0) fun w_1 =>
    (mm_br ((lg_cmp w_1 (Int32.toInt64 x6)) = (mm_i 0)) (
    mm_r282_1812 E cl n a0 a1 a2 a3 x4 (some (.int x5)) (some (.int x6)) h) (
    (mm_bz (mm_i 0) (some (.inl (some (.int (mm_i 0))), h)))))) (
  mm_r282_1812 E cl n a0 a1 a2 a3 x4 (some (.int x5)) (some (.int x6)) h)) := (rfl)
set_option maxRecDepth 20000 in
set_option maxHeartbeats 4000000 in
theorem mm_e282_590 (E : mm_E) (cl : mm_F) (n : Nat) (a0 : Nat) (a1 : Nat) (a2 : Nat) (a3 : Nat) (x4 : Int32) (o5 : Option Value) (o6 : Option Value) (h : mm_H) :
  mm_r282_590 E cl (n + 1) a0 a1 a2 a3 x4 o5 o6 h =
  mm_rI E h a0 (x4 + (mm_i 1)) fun v_1 =>
  mm_rI E h a0 (x4 + (mm_i 2)) fun v_2 =>
  mm_rI E h a0 (x4 + (mm_i 3)) fun v_3 =>
  mm_cI [] (cl 267 [.ref a1, .int v_1, .int v_2, .int v_3, .ref a3] h) fun v_5 h_4 =>
  mm_r282_615 E cl n a0 a1 a2 a3 x4 v_5 o6 h_4 := (rfl)
set_option maxRecDepth 20000 in
set_option maxHeartbeats 4000000 in
theorem mm_e282_615 (E : mm_E) (cl : mm_F) (n : Nat) (a0 : Nat) (a1 : Nat) (a2 : Nat) (a3 : Nat) (x4 : Int32) (x5 : Int32) (o6 : Option Value) (h : mm_H) :
  mm_r282_615 E cl (n + 1) a0 a1 a2 a3 x4 x5 o6 h =
  mm_rI E h a0 (x4 + (mm_i 1)) fun v_1 =>
  mm_rI E h a0 (x4 + (mm_i 2)) fun v_2 =>
  mm_rI E h a0 (x4 + (mm_i 3)) fun v_3 =>
  mm_cI [] (cl 173 [.ref a2, .int v_1, .int v_2, .int v_3] h) fun v_5 h_4 =>
  mm_r282_639 E cl n a0 a1 a2 a3 x4 x5 v_5 h_4 := (rfl)
set_option maxRecDepth 20000 in
set_option maxHeartbeats 4000000 in
theorem mm_e282_639 (E : mm_E) (cl : mm_F) (n : Nat) (a0 : Nat) (a1 : Nat) (a2 : Nat) (a3 : Nat) (x4 : Int32) (x5 : Int32) (x6 : Int32) (h : mm_H) :
  mm_r282_639 E cl (n + 1) a0 a1 a2 a3 x4 x5 x6 h =
  mm_cI [] (cl 145 [.ref a2] h) fun v_2 h_1 =>
  (mm_br (v_2 = x5) (
  mm_r282_650 E cl n a0 a1 a2 a3 x4 x5 x6 h_1) (
  (mm_bz (mm_i 0) (some (.inl (some (.int (mm_i 0))), h_1))))) := (rfl)
set_option maxRecDepth 20000 in
set_option maxHeartbeats 4000000 in
theorem mm_e282_650 (E : mm_E) (cl : mm_F) (n : Nat) (a0 : Nat) (a1 : Nat) (a2 : Nat) (a3 : Nat) (x4 : Int32) (x5 : Int32) (x6 : Int32) (h : mm_H) :
  mm_r282_650 E cl (n + 1) a0 a1 a2 a3 x4 x5 x6 h =
  (mm_br (x5 = (mm_i 0)) (
  mm_rJ h a3 (mm_i 0) fun w_1 =>
    (mm_br ((lg_cmp w_1 (Int32.toInt64 x6)) = (mm_i 0)) (
    mm_r282_1812 E cl n a0 a1 a2 a3 x4 (some (.int x5)) (some (.int x6)) h) (
    (mm_bz (mm_i 0) (some (.inl (some (.int (mm_i 0))), h)))))) (
  mm_r282_1812 E cl n a0 a1 a2 a3 x4 (some (.int x5)) (some (.int x6)) h)) := (rfl)
set_option maxRecDepth 20000 in
set_option maxHeartbeats 4000000 in
theorem mm_e282_670 (E : mm_E) (cl : mm_F) (n : Nat) (a0 : Nat) (a1 : Nat) (a2 : Nat) (a3 : Nat) (x4 : Int32) (o5 : Option Value) (o6 : Option Value) (h : mm_H) :
  mm_r282_670 E cl (n + 1) a0 a1 a2 a3 x4 o5 o6 h =
  mm_rI E h a0 (x4 + (mm_i 1)) fun v_1 =>
  mm_rI E h a0 (x4 + (mm_i 2)) fun v_2 =>
  (mm_br (v_2 = (mm_i 0)) (
  mm_r282_691 E cl n a0 a1 a2 a3 x4 o5 o6 a1 v_1 (mm_i 0) h) (
  mm_r282_691 E cl n a0 a1 a2 a3 x4 o5 o6 a1 v_1 (mm_i 1) h)) := (rfl)
set_option maxRecDepth 20000 in
set_option maxHeartbeats 4000000 in
theorem mm_e282_691 (E : mm_E) (cl : mm_F) (n : Nat) (a0 : Nat) (a1 : Nat) (a2 : Nat) (a3 : Nat) (x4 : Int32) (o5 : Option Value) (o6 : Option Value) (b0 : Nat) (s1 : Int32) (s2 : Int32) (h : mm_H) :
  mm_r282_691 E cl (n + 1) a0 a1 a2 a3 x4 o5 o6 b0 s1 s2 h =
  mm_rI E h a0 (x4 + (mm_i 3)) fun v_1 =>
  mm_rI E h a0 (x4 + (mm_i 4)) fun v_2 =>
  mm_cI [] (cl 110 [.ref b0, .int s1, .int s2, .int v_1, .int v_2] h) fun v_4 h_3 =>
  mm_rI E h_3 a0 (x4 + (mm_i 1)) fun v_5 =>
  mm_rI E h_3 a0 (x4 + (mm_i 2)) fun v_6 =>
  (mm_br (v_6 = (mm_i 0)) (
  mm_rI E h_3 a0 (x4 + (mm_i 3)) fun v_7 =>
    mm_rI E h_3 a0 (x4 + (mm_i 4)) fun v_8 =>
    mm_cI [] (cl 174 [.ref a2, .int v_5, .int (mm_i 0), .int v_7, .int v_8] h_3) fun v_10 h_9 =>
    (mm_br (v_4 = v_10) (
    mm_r282_1812 E cl n a0 a1 a2 a3 x4 o5 o6 h_9) (
    (mm_bz (mm_i 0) (some (.inl (some (.int (mm_i 0))), h_9)))))) (
  mm_rI E h_3 a0 (x4 + (mm_i 3)) fun v_11 =>
    mm_rI E h_3 a0 (x4 + (mm_i 4)) fun v_12 =>
    mm_cI [] (cl 174 [.ref a2, .int v_5, .int (mm_i 1), .int v_11, .int v_12] h_3) fun v_14 h_13 =>
    (mm_br (v_4 = v_14) (
    mm_r282_1812 E cl n a0 a1 a2 a3 x4 o5 o6 h_13) (
    (mm_bz (mm_i 0) (some (.inl (some (.int (mm_i 0))), h_13))))))) := (rfl)
set_option maxRecDepth 20000 in
set_option maxHeartbeats 4000000 in
theorem mm_e282_747 (E : mm_E) (cl : mm_F) (n : Nat) (a0 : Nat) (a1 : Nat) (a2 : Nat) (a3 : Nat) (x4 : Int32) (o5 : Option Value) (o6 : Option Value) (h : mm_H) :
  mm_r282_747 E cl (n + 1) a0 a1 a2 a3 x4 o5 o6 h =
  mm_rI E h a0 (x4 + (mm_i 1)) fun v_1 =>
  mm_rI E h a0 (x4 + (mm_i 2)) fun v_2 =>
  mm_cI [] (cl 111 [.ref a1, .int v_1, .int v_2] h) fun v_4 h_3 =>
  mm_rI E h_3 a0 (x4 + (mm_i 1)) fun v_5 =>
  mm_rI E h_3 a0 (x4 + (mm_i 2)) fun v_6 =>
  mm_cI [] (cl 175 [.ref a2, .int v_5, .int v_6] h_3) fun v_8 h_7 =>
  (mm_br (v_4 = v_8) (
  mm_r282_1812 E cl n a0 a1 a2 a3 x4 o5 o6 h_7) (
  (mm_bz (mm_i 0) (some (.inl (some (.int (mm_i 0))), h_7))))) := (rfl)
set_option maxRecDepth 20000 in
set_option maxHeartbeats 4000000 in
theorem mm_e282_784 (E : mm_E) (cl : mm_F) (n : Nat) (a0 : Nat) (a1 : Nat) (a2 : Nat) (a3 : Nat) (x4 : Int32) (o5 : Option Value) (o6 : Option Value) (h : mm_H) :
  mm_r282_784 E cl (n + 1) a0 a1 a2 a3 x4 o5 o6 h =
  mm_rI E h a0 (x4 + (mm_i 1)) fun v_1 =>
  mm_rI E h a0 (x4 + (mm_i 2)) fun v_2 =>
  mm_cI [] (cl 268 [.ref a1, .int v_1, .int v_2, .ref a3] h) fun v_4 h_3 =>
  mm_r282_803 E cl n a0 a1 a2 a3 x4 v_4 o6 h_3 := (rfl)
set_option maxRecDepth 20000 in
set_option maxHeartbeats 4000000 in
theorem mm_e282_803 (E : mm_E) (cl : mm_F) (n : Nat) (a0 : Nat) (a1 : Nat) (a2 : Nat) (a3 : Nat) (x4 : Int32) (x5 : Int32) (o6 : Option Value) (h : mm_H) :
  mm_r282_803 E cl (n + 1) a0 a1 a2 a3 x4 x5 o6 h =
  mm_rI E h a0 (x4 + (mm_i 1)) fun v_1 =>
  mm_rI E h a0 (x4 + (mm_i 2)) fun v_2 =>
  mm_cI [] (cl 176 [.ref a2, .int v_1, .int v_2] h) fun v_4 h_3 =>
  mm_cI [] (cl 145 [.ref a2] h_3) fun v_6 h_5 =>
  (mm_br (v_6 = x5) (
  (mm_br (x5 = (mm_i 0)) (
    mm_r282_837 E cl n a0 a1 a2 a3 x4 x5 v_4 h_5) (
    mm_r282_1812 E cl n a0 a1 a2 a3 x4 (some (.int x5)) (some (.int v_4)) h_5))) (
  (mm_bz (mm_i 0) (some (.inl (some (.int (mm_i 0))), h_5))))) := (rfl)
set_option maxRecDepth 20000 in
set_option maxHeartbeats 4000000 in
theorem mm_e282_837 (E : mm_E) (cl : mm_F) (n : Nat) (a0 : Nat) (a1 : Nat) (a2 : Nat) (a3 : Nat) (x4 : Int32) (x5 : Int32) (x6 : Int32) (h : mm_H) :
  mm_r282_837 E cl (n + 1) a0 a1 a2 a3 x4 x5 x6 h =
  mm_rJ h a3 (mm_i 0) fun w_1 =>
  (mm_br ((lg_cmp w_1 (Int32.toInt64 x6)) = (mm_i 0)) (
  mm_r282_1812 E cl n a0 a1 a2 a3 x4 (some (.int x5)) (some (.int x6)) h) (
  (mm_bz (mm_i 0) (some (.inl (some (.int (mm_i 0))), h))))) := (rfl)
set_option maxRecDepth 20000 in
set_option maxHeartbeats 4000000 in
theorem mm_e282_852 (E : mm_E) (cl : mm_F) (n : Nat) (a0 : Nat) (a1 : Nat) (a2 : Nat) (a3 : Nat) (x4 : Int32) (o5 : Option Value) (o6 : Option Value) (h : mm_H) :
  mm_r282_852 E cl (n + 1) a0 a1 a2 a3 x4 o5 o6 h =
  mm_cI [] (cl 113 [.ref a1] h) fun v_2 h_1 =>
  mm_cI [] (cl 178 [.ref a2] h_1) fun v_4 h_3 =>
  (mm_br (v_2 = v_4) (
  mm_r282_1812 E cl n a0 a1 a2 a3 x4 o5 o6 h_3) (
  (mm_bz (mm_i 0) (some (.inl (some (.int (mm_i 0))), h_3))))) := (rfl)
set_option maxRecDepth 20000 in
set_option maxHeartbeats 4000000 in
theorem mm_e282_865 (E : mm_E) (cl : mm_F) (n : Nat) (a0 : Nat) (a1 : Nat) (a2 : Nat) (a3 : Nat) (x4 : Int32) (o5 : Option Value) (o6 : Option Value) (h : mm_H) :
  mm_r282_865 E cl (n + 1) a0 a1 a2 a3 x4 o5 o6 h =
  mm_rI E h a0 (x4 + (mm_i 1)) fun v_1 =>
  mm_cI [] (cl 114 [.ref a1, .int v_1] h) fun v_3 h_2 =>
  mm_rI E h_2 a0 (x4 + (mm_i 1)) fun v_4 =>
  mm_cI [] (cl 190 [.ref a2, .int v_4] h_2) fun v_6 h_5 =>
  (mm_br (v_3 = v_6) (
  mm_r282_1812 E cl n a0 a1 a2 a3 x4 o5 o6 h_5) (
  (mm_bz (mm_i 0) (some (.inl (some (.int (mm_i 0))), h_5))))) := (rfl)
set_option maxRecDepth 20000 in
set_option maxHeartbeats 4000000 in
theorem mm_e282_890 (E : mm_E) (cl : mm_F) (n : Nat) (a0 : Nat) (a1 : Nat) (a2 : Nat) (a3 : Nat) (x4 : Int32) (o5 : Option Value) (o6 : Option Value) (h : mm_H) :
  mm_r282_890 E cl (n + 1) a0 a1 a2 a3 x4 o5 o6 h =
  mm_rI E h a0 (x4 + (mm_i 1)) fun v_1 =>
  mm_rI E h a0 (x4 + (mm_i 2)) fun v_2 =>
  mm_cI [] (cl 269 [.ref a1, .int v_1, .int v_2, .ref a3] h) fun v_4 h_3 =>
  mm_r282_909 E cl n a0 a1 a2 a3 x4 v_4 o6 h_3 := (rfl)
set_option maxRecDepth 20000 in
set_option maxHeartbeats 4000000 in
theorem mm_e282_909 (E : mm_E) (cl : mm_F) (n : Nat) (a0 : Nat) (a1 : Nat) (a2 : Nat) (a3 : Nat) (x4 : Int32) (x5 : Int32) (o6 : Option Value) (h : mm_H) :
  mm_r282_909 E cl (n + 1) a0 a1 a2 a3 x4 x5 o6 h =
  mm_rI E h a0 (x4 + (mm_i 1)) fun v_1 =>
  mm_rI E h a0 (x4 + (mm_i 2)) fun v_2 =>
  mm_cI [] (cl 187 [.ref a2, .int v_1, .int v_2] h) fun v_4 h_3 =>
  mm_cI [] (cl 145 [.ref a2] h_3) fun v_6 h_5 =>
  (mm_br (v_6 = x5) (
  (mm_br (x5 = (mm_i 0)) (
    mm_r282_943 E cl n a0 a1 a2 a3 x4 x5 v_4 h_5) (
    mm_r282_1812 E cl n a0 a1 a2 a3 x4 (some (.int x5)) (some (.int v_4)) h_5))) (
  (mm_bz (mm_i 0) (some (.inl (some (.int (mm_i 0))), h_5))))) := (rfl)
