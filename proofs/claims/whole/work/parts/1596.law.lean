-- the law
set_option maxRecDepth 20000 in
set_option maxHeartbeats 4000000 in
theorem mm_e282_23 (E : mm_E) (cl : mm_F) (n : Nat) (a0 : Nat) (a1 : Nat) (a2 : Nat) (a3 : Nat) (x4 : Int32) (o5 : Option Value) (o6 : Option Value) (h : mm_H) :
  mm_r282_23 E cl (n + 1) a0 a1 a2 a3 x4 o5 o6 h =
  mm_ln E h a0 fun v_1 =>
  (mm_br ((v_1 - (mm_i 6)) < x4) (
  (mm_bz (mm_i 1) (some (.inl (some (.int (mm_i 1))), h)))) (
  mm_rI E h a0 x4 fun v_2 =>
    (mm_br ((v_2 &&& (mm_i 31)) = (mm_i 0)) (
    mm_r282_176 E cl n a0 a1 a2 a3 x4 o5 o6 h) (
    (mm_br ((v_2 &&& (mm_i 31)) = (mm_i 1)) (
    mm_r282_249 E cl n a0 a1 a2 a3 x4 o5 o6 h) (
    (mm_br ((v_2 &&& (mm_i 31)) = (mm_i 2)) (
    mm_r282_305 E cl n a0 a1 a2 a3 x4 o5 o6 h) (
    (mm_br ((v_2 &&& (mm_i 31)) = (mm_i 3)) (
    mm_r282_318 E cl n a0 a1 a2 a3 x4 o5 o6 h) (
    (mm_br ((v_2 &&& (mm_i 31)) = (mm_i 4)) (
    mm_r282_374 E cl n a0 a1 a2 a3 x4 o5 o6 h) (
    (mm_br ((v_2 &&& (mm_i 31)) = (mm_i 5)) (
    mm_r282_442 E cl n a0 a1 a2 a3 x4 o5 o6 h) (
    (mm_br ((v_2 &&& (mm_i 31)) = (mm_i 6)) (
    mm_r282_510 E cl n a0 a1 a2 a3 x4 o5 o6 h) (
    (mm_br ((v_2 &&& (mm_i 31)) = (mm_i 7)) (
    mm_r282_590 E cl n a0 a1 a2 a3 x4 o5 o6 h) (
    (mm_br ((v_2 &&& (mm_i 31)) = (mm_i 8)) (
    mm_r282_670 E cl n a0 a1 a2 a3 x4 o5 o6 h) (
    (mm_br ((v_2 &&& (mm_i 31)) = (mm_i 9)) (
    mm_r282_747 E cl n a0 a1 a2 a3 x4 o5 o6 h) (
    (mm_br ((v_2 &&& (mm_i 31)) = (mm_i 10)) (
    mm_r282_784 E cl n a0 a1 a2 a3 x4 o5 o6 h) (
    (mm_br ((v_2 &&& (mm_i 31)) = (mm_i 11)) (
    mm_r282_852 E cl n a0 a1 a2 a3 x4 o5 o6 h) (
    (mm_br ((v_2 &&& (mm_i 31)) = (mm_i 12)) (
    mm_r282_865 E cl n a0 a1 a2 a3 x4 o5 o6 h) (
    (mm_br ((v_2 &&& (mm_i 31)) = (mm_i 13)) (
    mm_r282_890 E cl n a0 a1 a2 a3 x4 o5 o6 h) (
    (mm_br ((v_2 &&& (mm_i 31)) = (mm_i 14)) (
    mm_r282_958 E cl n a0 a1 a2 a3 x4 o5 o6 h) (
    (mm_br ((v_2 &&& (mm_i 31)) = (mm_i 15)) (
    mm_r282_1026 E cl n a0 a1 a2 a3 x4 o5 o6 h) (
    (mm_br ((v_2 &&& (mm_i 31)) = (mm_i 16)) (
    mm_r282_1082 E cl n a0 a1 a2 a3 x4 o5 o6 h) (
    (mm_br ((v_2 &&& (mm_i 31)) = (mm_i 17)) (
    mm_r282_1095 E cl n a0 a1 a2 a3 x4 o5 o6 h) (
    (mm_br ((v_2 &&& (mm_i 31)) = (mm_i 18)) (
    mm_r282_1163 E cl n a0 a1 a2 a3 x4 o5 o6 h) (
    (mm_br ((v_2 &&& (mm_i 31)) = (mm_i 19)) (
    mm_r282_1219 E cl n a0 a1 a2 a3 x4 o5 o6 h) (
    (mm_br ((v_2 &&& (mm_i 31)) = (mm_i 20)) (
    mm_r282_1244 E cl n a0 a1 a2 a3 x4 o5 o6 h) (
    (mm_br ((v_2 &&& (mm_i 31)) = (mm_i 21)) (
    mm_r282_1312 E cl n a0 a1 a2 a3 x4 o5 o6 h) (
    (mm_br ((v_2 &&& (mm_i 31)) = (mm_i 22)) (
    mm_r282_1392 E cl n a0 a1 a2 a3 x4 o5 o6 h) (
    (mm_br ((v_2 &&& (mm_i 31)) = (mm_i 23)) (
    mm_r282_1460 E cl n a0 a1 a2 a3 x4 o5 o6 h) (
    (mm_br ((v_2 &&& (mm_i 31)) = (mm_i 24)) (
    mm_r282_1540 E cl n a0 a1 a2 a3 x4 o5 o6 h) (
    (mm_br ((v_2 &&& (mm_i 31)) = (mm_i 25)) (
    mm_r282_1608 E cl n a0 a1 a2 a3 x4 o5 o6 h) (
    (mm_br ((v_2 &&& (mm_i 31)) = (mm_i 26)) (
    mm_r282_1664 E cl n a0 a1 a2 a3 x4 o5 o6 h) (
    (mm_br ((v_2 &&& (mm_i 31)) = (mm_i 27)) (
    mm_r282_1732 E cl n a0 a1 a2 a3 x4 o5 o6 h) (
    (mm_br ((v_2 &&& (mm_i 31)) = (mm_i 28)) (
    mm_r282_1788 E cl n a0 a1 a2 a3 x4 o5 o6 h) (
    (mm_br ((v_2 &&& (mm_i 31)) = (mm_i 29)) (
    mm_r282_1799 E cl n a0 a1 a2 a3 x4 o5 o6 h) (
    mm_r282_1812 E cl n a0 a1 a2 a3 x4 o5 o6 h)))))))))))))))))))))))))))))))))))))))))))))))))))))))))))))) := (rfl)
