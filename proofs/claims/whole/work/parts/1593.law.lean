-- the law
set_option maxRecDepth 20000 in
set_option maxHeartbeats 4000000 in
theorem mm_e282_803 (E : mm_E) (cl : mm_F) (n : Nat) (a0 : Nat) (a1 : Nat) (a2 : Nat) (a3 : Nat) (x4 : Int32) (x5 : Int32) (o6 : Option Value) (h : mm_H) :
  mm_r282_803 E cl (n + 1) a0 a1 a2 a3 x4 x5 o6 h =
  mm_rI E h a0 (x4 + (mm_i 1)) fun v_1 =>
  mm_rI E h a0 (x4 + (mm_i 2)) fun v_2 =>
  mm_cI [] (cl 176 [.ref a2, .int v_1, .int v_2] h) fun v_4 h_3 =>
  mm_cI [] (cl 145 [.ref a2] h_3) fun v_6 h_5 =>
  (mm_br (v_6 = x5) (
  (mm_br (x5 = (mm_i 0)) (
    mm_r282_837 E cl n a0 a1 a2 a3 x4 x5 v_4 h_5) (
    mm_r282_1812 E cl n a0 a1 a2 a3 x4 (some (.int x5)) (some (.int v_4)) h_5))) (
  (mm_bz (mm_i 0) (some (.inl (some (.int (mm_i 0))), h_5))))) := (rfl)
set_option maxRecDepth 20000 in
set_option maxHeartbeats 4000000 in
theorem mm_e282_837 (E : mm_E) (cl : mm_F) (n : Nat) (a0 : Nat) (a1 : Nat) (a2 : Nat) (a3 : Nat) (x4 : Int32) (x5 : Int32) (x6 : Int32) (h : mm_H) :
  mm_r282_837 E cl (n + 1) a0 a1 a2 a3 x4 x5 x6 h =
  mm_rJ h a3 (mm_i 0) fun w_1 =>
  (mm_br ((lg_cmp w_1 (Int32.toInt64 x6)) = (mm_i 0)) (
  mm_r282_1812 E cl n a0 a1 a2 a3 x4 (some (.int x5)) (some (.int x6)) h) (
  (mm_bz (mm_i 0) (some (.inl (some (.int (mm_i 0))), h))))) := (rfl)
set_option maxRecDepth 20000 in
set_option maxHeartbeats 4000000 in
theorem mm_e282_852 (E : mm_E) (cl : mm_F) (n : Nat) (a0 : Nat) (a1 : Nat) (a2 : Nat) (a3 : Nat) (x4 : Int32) (o5 : Option Value) (o6 : Option Value) (h : mm_H) :
  mm_r282_852 E cl (n + 1) a0 a1 a2 a3 x4 o5 o6 h =
  mm_cI [] (cl 113 [.ref a1] h) fun v_2 h_1 =>
  mm_cI [] (cl 178 [.ref a2] h_1) fun v_4 h_3 =>
  (mm_br (v_2 = v_4) (
  mm_r282_1812 E cl n a0 a1 a2 a3 x4 o5 o6 h_3) (
  (mm_bz (mm_i 0) (some (.inl (some (.int (mm_i 0))), h_3))))) := (rfl)
set_option maxRecDepth 20000 in
set_option maxHeartbeats 4000000 in
theorem mm_e282_865 (E : mm_E) (cl : mm_F) (n : Nat) (a0 : Nat) (a1 : Nat) (a2 : Nat) (a3 : Nat) (x4 : Int32) (o5 : Option Value) (o6 : Option Value) (h : mm_H) :
  mm_r282_865 E cl (n + 1) a0 a1 a2 a3 x4 o5 o6 h =
  mm_rI E h a0 (x4 + (mm_i 1)) fun v_1 =>
  mm_cI [] (cl 114 [.ref a1, .int v_1] h) fun v_3 h_2 =>
  mm_rI E h_2 a0 (x4 + (mm_i 1)) fun v_4 =>
  mm_cI [] (cl 190 [.ref a2, .int v_4] h_2) fun v_6 h_5 =>
  (mm_br (v_3 = v_6) (
  mm_r282_1812 E cl n a0 a1 a2 a3 x4 o5 o6 h_5) (
  (mm_bz (mm_i 0) (some (.inl (some (.int (mm_i 0))), h_5))))) := (rfl)
set_option maxRecDepth 20000 in
set_option maxHeartbeats 4000000 in
theorem mm_e282_890 (E : mm_E) (cl : mm_F) (n : Nat) (a0 : Nat) (a1 : Nat) (a2 : Nat) (a3 : Nat) (x4 : Int32) (o5 : Option Value) (o6 : Option Value) (h : mm_H) :
  mm_r282_890 E cl (n + 1) a0 a1 a2 a3 x4 o5 o6 h =
  mm_rI E h a0 (x4 + (mm_i 1)) fun v_1 =>
  mm_rI E h a0 (x4 + (mm_i 2)) fun v_2 =>
  mm_cI [] (cl 269 [.ref a1, .int v_1, .int v_2, .ref a3] h) fun v_4 h_3 =>
  mm_r282_909 E cl n a0 a1 a2 a3 x4 v_4 o6 h_3 := (rfl)
set_option maxRecDepth 20000 in
set_option maxHeartbeats 4000000 in
theorem mm_e282_909 (E : mm_E) (cl : mm_F) (n : Nat) (a0 : Nat) (a1 : Nat) (a2 : Nat) (a3 : Nat) (x4 : Int32) (x5 : Int32) (o6 : Option Value) (h : mm_H) :
  mm_r282_909 E cl (n + 1) a0 a1 a2 a3 x4 x5 o6 h =
  mm_rI E h a0 (x4 + (mm_i 1)) fun v_1 =>
  mm_rI E h a0 (x4 + (mm_i 2)) fun v_2 =>
  mm_cI [] (cl 187 [.ref a2, .int v_1, .int v_2] h) fun v_4 h_3 =>
  mm_cI [] (cl 145 [.ref a2] h_3) fun v_6 h_5 =>
  (mm_br (v_6 = x5) (
  (mm_br (x5 = (mm_i 0)) (
    mm_r282_943 E cl n a0 a1 a2 a3 x4 x5 v_4 h_5) (
    mm_r282_1812 E cl n a0 a1 a2 a3 x4 (some (.int x5)) (some (.int v_4)) h_5))) (
  (mm_bz (mm_i 0) (some (.inl (some (.int (mm_i 0))), h_5))))) := (rfl)
set_option maxRecDepth 20000 in
set_option maxHeartbeats 4000000 in
theorem mm_e282_943 (E : mm_E) (cl : mm_F) (n : Nat) (a0 : Nat) (a1 : Nat) (a2 : Nat) (a3 : Nat) (x4 : Int32) (x5 : Int32) (x6 : Int32) (h : mm_H) :
  mm_r282_943 E cl (n + 1) a0 a1 a2 a3 x4 x5 x6 h =
  mm_rJ h a3 (mm_i 0) fun w_1 =>
  (mm_br ((lg_cmp w_1 (Int32.toInt64 x6)) = (mm_i 0)) (
  mm_r282_1812 E cl n a0 a1 a2 a3 x4 (some (.int x5)) (some (.int x6)) h) (
  (mm_bz (mm_i 0) (some (.inl (some (.int (mm_i 0))), h))))) := (rfl)
set_option maxRecDepth 20000 in
set_option maxHeartbeats 4000000 in
theorem mm_e282_958 (E : mm_E) (cl : mm_F) (n : Nat) (a0 : Nat) (a1 : Nat) (a2 : Nat) (a3 : Nat) (x4 : Int32) (o5 : Option Value) (o6 : Option Value) (h : mm_H) :
  mm_r282_958 E cl (n + 1) a0 a1 a2 a3 x4 o5 o6 h =
  mm_rI E h a0 (x4 + (mm_i 1)) fun v_1 =>
  mm_rI E h a0 (x4 + (mm_i 2)) fun v_2 =>
  mm_cI [] (cl 270 [.ref a1, .int v_1, .int v_2, .ref a3] h) fun v_4 h_3 =>
  mm_r282_977 E cl n a0 a1 a2 a3 x4 v_4 o6 h_3 := (rfl)
set_option maxRecDepth 20000 in
set_option maxHeartbeats 4000000 in
theorem mm_e282_977 (E : mm_E) (cl : mm_F) (n : Nat) (a0 : Nat) (a1 : Nat) (a2 : Nat) (a3 : Nat) (x4 : Int32) (x5 : Int32) (o6 : Option Value) (h : mm_H) :
  mm_r282_977 E cl (n + 1) a0 a1 a2 a3 x4 x5 o6 h =
  mm_rI E h a0 (x4 + (mm_i 1)) fun v_1 =>
  mm_rI E h a0 (x4 + (mm_i 2)) fun v_2 =>
  mm_cI [] (cl 185 [.ref a2, .int v_1, .int v_2] h) fun v_4 h_3 =>
  mm_cI [] (cl 145 [.ref a2] h_3) fun v_6 h_5 =>
  (mm_br (v_6 = x5) (
  (mm_br (x5 = (mm_i 0)) (
    mm_r282_1011 E cl n a0 a1 a2 a3 x4 x5 v_4 h_5) (
    mm_r282_1812 E cl n a0 a1 a2 a3 x4 (some (.int x5)) (some (.int v_4)) h_5))) (
  (mm_bz (mm_i 0) (some (.inl (some (.int (mm_i 0))), h_5))))) := (rfl)
set_option maxRecDepth 20000 in
set_option maxHeartbeats 4000000 in
theorem mm_e282_1011 (E : mm_E) (cl : mm_F) (n : Nat) (a0 : Nat) (a1 : Nat) (a2 : Nat) (a3 : Nat) (x4 : Int32) (x5 : Int32) (x6 : Int32) (h : mm_H) :
  mm_r282_1011 E cl (n + 1) a0 a1 a2 a3 x4 x5 x6 h =
  mm_rJ h a3 (mm_i 0) fun w_1 =>
  (mm_br ((lg_cmp w_1 (Int32.toInt64 x6)) = (mm_i 0)) (
  mm_r282_1812 E cl n a0 a1 a2 a3 x4 (some (.int x5)) (some (.int x6)) h) (
  (mm_bz (mm_i 0) (some (.inl (some (.int (mm_i 0))), h))))) := (rfl)
set_option maxRecDepth 20000 in
set_option maxHeartbeats 4000000 in
theorem mm_e282_1026 (E : mm_E) (cl : mm_F) (n : Nat) (a0 : Nat) (a1 : Nat) (a2 : Nat) (a3 : Nat) (x4 : Int32) (o5 : Option Value) (o6 : Option Value) (h : mm_H) :
  mm_r282_1026 E cl (n + 1) a0 a1 a2 a3 x4 o5 o6 h =
  mm_rI E h a0 (x4 + (mm_i 1)) fun v_1 =>
  mm_cI [] (cl 271 [.ref a1, .int v_1, .ref a3] h) fun v_3 h_2 =>
  mm_rI E h_2 a0 (x4 + (mm_i 1)) fun v_4 =>
  mm_cI [] (cl 186 [.ref a2, .int v_4] h_2) fun v_6 h_5 =>
  mm_cI [] (cl 145 [.ref a2] h_5) fun v_8 h_7 =>
  (mm_br (v_8 = v_3) (
  mm_r282_1062 E cl n a0 a1 a2 a3 x4 v_3 v_6 h_7) (
  (mm_bz (mm_i 0) (some (.inl (some (.int (mm_i 0))), h_7))))) := (rfl)
set_option maxRecDepth 20000 in
set_option maxHeartbeats 4000000 in
theorem mm_e282_1062 (E : mm_E) (cl : mm_F) (n : Nat) (a0 : Nat) (a1 : Nat) (a2 : Nat) (a3 : Nat) (x4 : Int32) (x5 : Int32) (x6 : Int32) (h : mm_H) :
  mm_r282_1062 E cl (n + 1) a0 a1 a2 a3 x4 x5 x6 h =
  (mm_br (x5 = (mm_i 0)) (
  mm_rJ h a3 (mm_i 0) fun w_1 =>
    (mm_br ((lg_cmp w_1 (Int32.toInt64 x6)) = (mm_i 0)) (
    mm_r282_1812 E cl n a0 a1 a2 a3 x4 (some (.int x5)) (some (.int x6)) h) (
    (mm_bz (mm_i 0) (some (.inl (some (.int (mm_i 0))), h)))))) (
  mm_r282_1812 E cl n a0 a1 a2 a3 x4 (some (.int x5)) (some (.int x6)) h)) := (rfl)
set_option maxRecDepth 20000 in
set_option maxHeartbeats 4000000 in
theorem mm_e282_1082 (E : mm_E) (cl : mm_F) (n : Nat) (a0 : Nat) (a1 : Nat) (a2 : Nat) (a3 : Nat) (x4 : Int32) (o5 : Option Value) (o6 : Option Value) (h : mm_H) :
  mm_r282_1082 E cl (n + 1) a0 a1 a2 a3 x4 o5 o6 h =
  mm_cI [] (cl 118 [.ref a1] h) fun v_2 h_1 =>
  mm_cI [] (cl 204 [.ref a2] h_1) fun v_4 h_3 =>
  (mm_br (v_2 = v_4) (
  mm_r282_1812 E cl n a0 a1 a2 a3 x4 o5 o6 h_3) (
  (mm_bz (mm_i 0) (some (.inl (some (.int (mm_i 0))), h_3))))) := (rfl)
set_option maxRecDepth 20000 in
set_option maxHeartbeats 4000000 in
theorem mm_e282_1095 (E : mm_E) (cl : mm_F) (n : Nat) (a0 : Nat) (a1 : Nat) (a2 : Nat) (a3 : Nat) (x4 : Int32) (o5 : Option Value) (o6 : Option Value) (h : mm_H) :
  mm_r282_1095 E cl (n + 1) a0 a1 a2 a3 x4 o5 o6 h =
  mm_rI E h a0 (x4 + (mm_i 1)) fun v_1 =>
  mm_rI E h a0 (x4 + (mm_i 2)) fun v_2 =>
  mm_cI [] (cl 272 [.ref a1, .int v_1, .int v_2, .ref a3] h) fun v_4 h_3 =>
  mm_r282_1114 E cl n a0 a1 a2 a3 x4 v_4 o6 h_3 := (rfl)
set_option maxRecDepth 20000 in
set_option maxHeartbeats 4000000 in
theorem mm_e282_1114 (E : mm_E) (cl : mm_F) (n : Nat) (a0 : Nat) (a1 : Nat) (a2 : Nat) (a3 : Nat) (x4 : Int32) (x5 : Int32) (o6 : Option Value) (h : mm_H) :
  mm_r282_1114 E cl (n + 1) a0 a1 a2 a3 x4 x5 o6 h =
  mm_rI E h a0 (x4 + (mm_i 1)) fun v_1 =>
  mm_rI E h a0 (x4 + (mm_i 2)) fun v_2 =>
  mm_cI [] (cl 207 [.ref a2, .int v_1, .int v_2] h) fun v_4 h_3 =>
  mm_cI [] (cl 145 [.ref a2] h_3) fun v_6 h_5 =>
  (mm_br (v_6 = x5) (
  (mm_br (x5 = (mm_i 0)) (
    mm_r282_1148 E cl n a0 a1 a2 a3 x4 x5 v_4 h_5) (
    mm_r282_1812 E cl n a0 a1 a2 a3 x4 (some (.int x5)) (some (.int v_4)) h_5))) (
  (mm_bz (mm_i 0) (some (.inl (some (.int (mm_i 0))), h_5))))) := (rfl)
set_option maxRecDepth 20000 in
set_option maxHeartbeats 4000000 in
theorem mm_e282_1148 (E : mm_E) (cl : mm_F) (n : Nat) (a0 : Nat) (a1 : Nat) (a2 : Nat) (a3 : Nat) (x4 : Int32) (x5 : Int32) (x6 : Int32) (h : mm_H) :
  mm_r282_1148 E cl (n + 1) a0 a1 a2 a3 x4 x5 x6 h =
  mm_rJ h a3 (mm_i 0) fun w_1 =>
  (mm_br ((lg_cmp w_1 (Int32.toInt64 x6)) = (mm_i 0)) (
  mm_r282_1812 E cl n a0 a1 a2 a3 x4 (some (.int x5)) (some (.int x6)) h) (
  (mm_bz (mm_i 0) (some (.inl (some (.int (mm_i 0))), h))))) := (rfl)
set_option maxRecDepth 20000 in
set_option maxHeartbeats 4000000 in
theorem mm_e282_1163 (E : mm_E) (cl : mm_F) (n : Nat) (a0 : Nat) (a1 : Nat) (a2 : Nat) (a3 : Nat) (x4 : Int32) (o5 : Option Value) (o6 : Option Value) (h : mm_H) :
  mm_r282_1163 E cl (n + 1) a0 a1 a2 a3 x4 o5 o6 h =
  mm_rI E h a0 (x4 + (mm_i 1)) fun v_1 =>
  mm_cI [] (cl 273 [.ref a1, .int v_1, .ref a3] h) fun v_3 h_2 =>
  mm_rI E h_2 a0 (x4 + (mm_i 1)) fun v_4 =>
  mm_cI [] (cl 209 [.ref a2, .int v_4] h_2) fun v_6 h_5 =>
  mm_cI [] (cl 145 [.ref a2] h_5) fun v_8 h_7 =>
  (mm_br (v_8 = v_3) (
  mm_r282_1199 E cl n a0 a1 a2 a3 x4 v_3 v_6 h_7) (
  (mm_bz (mm_i 0) (some (.inl (some (.int (mm_i 0))), h_7))))) := (rfl)
set_option maxRecDepth 20000 in
set_option maxHeartbeats 4000000 in
theorem mm_e282_1199 (E : mm_E) (cl : mm_F) (n : Nat) (a0 : Nat) (a1 : Nat) (a2 : Nat) (a3 : Nat) (x4 : Int32) (x5 : Int32) (x6 : Int32) (h : mm_H) :
  mm_r282_1199 E cl (n + 1) a0 a1 a2 a3 x4 x5 x6 h =
  (mm_br (x5 = (mm_i 0)) (
  mm_rJ h a3 (mm_i 0) fun w_1 =>
    (mm_br ((lg_cmp w_1 (Int32.toInt64 x6)) = (mm_i 0)) (
    mm_r282_1812 E cl n a0 a1 a2 a3 x4 (some (.int x5)) (some (.int x6)) h) (
    (mm_bz (mm_i 0) (some (.inl (some (.int (mm_i 0))), h)))))) (
  mm_r282_1812 E cl n a0 a1 a2 a3 x4 (some (.int x5)) (some (.int x6)) h)) := (rfl)
set_option maxRecDepth 20000 in
set_option maxHeartbeats 4000000 in
theorem mm_e282_1219 (E : mm_E) (cl : mm_F) (n : Nat) (a0 : Nat) (a1 : Nat) (a2 : Nat) (a3 : Nat) (x4 : Int32) (o5 : Option Value) (o6 : Option Value) (h : mm_H) :
  mm_r282_1219 E cl (n + 1) a0 a1 a2 a3 x4 o5 o6 h =
  mm_rI E h a0 (x4 + (mm_i 1)) fun v_1 =>
  mm_cI [] (cl 121 [.ref a1, .int v_1] h) fun v_3 h_2 =>
  mm_rI E h_2 a0 (x4 + (mm_i 1)) fun v_4 =>
  mm_cI [] (cl 210 [.ref a2, .int v_4] h_2) fun v_6 h_5 =>
  (mm_br (v_3 = v_6) (
  mm_r282_1812 E cl n a0 a1 a2 a3 x4 o5 o6 h_5) (
  (mm_bz (mm_i 0) (some (.inl (some (.int (mm_i 0))), h_5))))) := (rfl)
set_option maxRecDepth 20000 in
set_option maxHeartbeats 4000000 in
theorem mm_e282_1244 (E : mm_E) (cl : mm_F) (n : Nat) (a0 : Nat) (a1 : Nat) (a2 : Nat) (a3 : Nat) (x4 : Int32) (o5 : Option Value) (o6 : Option Value) (h : mm_H) :
  mm_r282_1244 E cl (n + 1) a0 a1 a2 a3 x4 o5 o6 h =
  mm_rI E h a0 (x4 + (mm_i 1)) fun v_1 =>
  mm_rI E h a0 (x4 + (mm_i 2)) fun v_2 =>
  mm_cI [] (cl 274 [.ref a1, .int v_1, .int v_2, .ref a3] h) fun v_4 h_3 =>
  mm_r282_1263 E cl n a0 a1 a2 a3 x4 v_4 o6 h_3 := (rfl)
set_option maxRecDepth 20000 in
set_option maxHeartbeats 4000000 in
theorem mm_e282_1263 (E : mm_E) (cl : mm_F) (n : Nat) (a0 : Nat) (a1 : Nat) (a2 : Nat) (a3 : Nat) (x4 : Int32) (x5 : Int32) (o6 : Option Value) (h : mm_H) :
  mm_r282_1263 E cl (n + 1) a0 a1 a2 a3 x4 x5 o6 h =
  mm_rI E h a0 (x4 + (mm_i 1)) fun v_1 =>
  mm_rI E h a0 (x4 + (mm_i 2)) fun v_2 =>
  mm_cI [] (cl 211 [.ref a2, .int v_1, .int v_2] h) fun v_4 h_3 =>
  mm_cI [] (cl 145 [.ref a2] h_3) fun v_6 h_5 =>
  (mm_br (v_6 = x5) (
  (mm_br (x5 = (mm_i 0)) (
    mm_r282_1297 E cl n a0 a1 a2 a3 x4 x5 v_4 h_5) (
    mm_r282_1812 E cl n a0 a1 a2 a3 x4 (some (.int x5)) (some (.int v_4)) h_5))) (
  (mm_bz (mm_i 0) (some (.inl (some (.int (mm_i 0))), h_5))))) := (rfl)
set_option maxRecDepth 20000 in
set_option maxHeartbeats 4000000 in
theorem mm_e282_1297 (E : mm_E) (cl : mm_F) (n : Nat) (a0 : Nat) (a1 : Nat) (a2 : Nat) (a3 : Nat) (x4 : Int32) (x5 : Int32) (x6 : Int32) (h : mm_H) :
  mm_r282_1297 E cl (n + 1) a0 a1 a2 a3 x4 x5 x6 h =
  mm_rJ h a3 (mm_i 0) fun w_1 =>
  (mm_br ((lg_cmp w_1 (Int32.toInt64 x6)) = (mm_i 0)) (
  mm_r282_1812 E cl n a0 a1 a2 a3 x4 (some (.int x5)) (some (.int x6)) h) (
  (mm_bz (mm_i 0) (some (.inl (some (.int (mm_i 0))), h))))) := (rfl)
set_option maxRecDepth 20000 in
set_option maxHeartbeats 4000000 in
theorem mm_e282_1312 (E : mm_E) (cl : mm_F) (n : Nat) (a0 : Nat) (a1 : Nat) (a2 : Nat) (a3 : Nat) (x4 : Int32) (o5 : Option Value) (o6 : Option Value) (h : mm_H) :
  mm_r282_1312 E cl (n + 1) a0 a1 a2 a3 x4 o5 o6 h =
  mm_rI E h a0 (x4 + (mm_i 1)) fun v_1 =>
  mm_rI E h a0 (x4 + (mm_i 2)) fun v_2 =>
  mm_rI E h a0 (x4 + (mm_i 3)) fun v_3 =>
  mm_cI [] (cl 275 [.ref a1, .int v_1, .int v_2, .int v_3, .ref a3] h) fun v_5 h_4 =>
  mm_r282_1337 E cl n a0 a1 a2 a3 x4 v_5 o6 h_4 := (rfl)
set_option maxRecDepth 20000 in
set_option maxHeartbeats 4000000 in
theorem mm_e282_1337 (E : mm_E) (cl : mm_F) (n : Nat) (a0 : Nat) (a1 : Nat) (a2 : Nat) (a3 : Nat) (x4 : Int32) (x5 : Int32) (o6 : Option Value) (h : mm_H) :
  mm_r282_1337 E cl (n + 1) a0 a1 a2 a3 x4 x5 o6 h =
  mm_rI E h a0 (x4 + (mm_i 1)) fun v_1 =>
  mm_rI E h a0 (x4 + (mm_i 2)) fun v_2 =>
  mm_rI E h a0 (x4 + (mm_i 3)) fun v_3 =>
  mm_cI [] (cl 214 [.ref a2, .int v_1, .int v_2, .int v_3] h) fun v_5 h_4 =>
  mm_r282_1361 E cl n a0 a1 a2 a3 x4 x5 v_5 h_4 := (rfl)
