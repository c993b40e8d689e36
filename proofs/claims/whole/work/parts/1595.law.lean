-- the law
-- feed, in pieces
set_option maxRecDepth 20000 in
set_option maxHeartbeats 4000000 in
theorem lw_g0 (E : mm_E) (cl : mm_F) (kn : mm_K) (m : Nat) (a0 : Nat) (a1 : Nat) (a2 : Nat) (a3 : Nat) (x4 : Int32) (o5 : Option Value) (o6 : Option Value)  (h : mm_H) :
  lw_blk E cl kn (m + 11) 176 [some (.ref a0), some (.ref a1), some (.ref a2), some (.ref a3), some (.int x4), o5, o6] [] h =
  mm_rI E h a0 (x4 + (mm_i 1)) fun v1 =>
  mm_rI E h a0 (x4 + (mm_i 2)) fun v2 =>
  lw_blk E cl kn m 189 [some (.ref a0), some (.ref a1), some (.ref a2), some (.ref a3), some (.int x4), o5, o6] [.int v2, .int v1, .ref a1] h := (rfl)
set_option maxRecDepth 20000 in
set_option maxHeartbeats 4000000 in
theorem lw_g1 (E : mm_E) (cl : mm_F) (kn : mm_K) (m : Nat) (a0 : Nat) (a1 : Nat) (a2 : Nat) (a3 : Nat) (x4 : Int32) (o5 : Option Value) (o6 : Option Value) (v1 : Int32) (v2 : Int32) (h : mm_H) :
  lw_blk E cl kn (m + 10) 189 [some (.ref a0), some (.ref a1), some (.ref a2), some (.ref a3), some (.int x4), o5, o6] [.int v2, .int v1, .ref a1] h =
  mm_rI E h a0 (x4 + (mm_i 3)) fun v3 =>
  mm_rI E h a0 (x4 + (mm_i 4)) fun v4 =>
  lw_blk E cl kn m 201 [some (.ref a0), some (.ref a1), some (.ref a2), some (.ref a3), some (.int x4), o5, o6] [.int v4, .int v3, .int v2, .int v1, .ref a1] h := (rfl)
set_option maxRecDepth 20000 in
set_option maxHeartbeats 4000000 in
theorem lw_g2 (E : mm_E) (cl : mm_F) (kn : mm_K) (m : Nat) (a0 : Nat) (a1 : Nat) (a2 : Nat) (a3 : Nat) (x4 : Int32) (o5 : Option Value) (o6 : Option Value) (v1 : Int32) (v2 : Int32) (v3 : Int32) (v4 : Int32) (h : mm_H) :
  lw_blk E cl kn (m + 6) 201 [some (.ref a0), some (.ref a1), some (.ref a2), some (.ref a3), some (.int x4), o5, o6] [.int v4, .int v3, .int v2, .int v1, .ref a1] h =
  mm_rI E h a0 (x4 + (mm_i 5)) fun v5 =>
  mm_cI [] (cl 102 [.ref a1, .int v1, .int v2, .int v3, .int v4, .int v5] h) fun w h =>
  lw_blk E cl kn m 210 [some (.ref a0), some (.ref a1), some (.ref a2), some (.ref a3), some (.int x4), o5, o6] [.int w] h := (rfl)
set_option maxRecDepth 20000 in
set_option maxHeartbeats 4000000 in
theorem lw_g3 (E : mm_E) (cl : mm_F) (kn : mm_K) (m : Nat) (a0 : Nat) (a1 : Nat) (a2 : Nat) (a3 : Nat) (x4 : Int32) (o5 : Option Value) (o6 : Option Value) (w : Int32) (h : mm_H) :
  lw_blk E cl kn (m + 11) 210 [some (.ref a0), some (.ref a1), some (.ref a2), some (.ref a3), some (.int x4), o5, o6] [.int w] h =
  mm_rI E h a0 (x4 + (mm_i 1)) fun v1 =>
  mm_rI E h a0 (x4 + (mm_i 2)) fun v2 =>
  lw_blk E cl kn m 223 [some (.ref a0), some (.ref a1), some (.ref a2), some (.ref a3), some (.int x4), o5, o6] [.int v2, .int v1, .ref a2, .int w] h := (rfl)
set_option maxRecDepth 20000 in
set_option maxHeartbeats 4000000 in
theorem lw_g4 (E : mm_E) (cl : mm_F) (kn : mm_K) (m : Nat) (a0 : Nat) (a1 : Nat) (a2 : Nat) (a3 : Nat) (x4 : Int32) (o5 : Option Value) (o6 : Option Value) (w : Int32) (v1 : Int32) (v2 : Int32) (h : mm_H) :
  lw_blk E cl kn (m + 10) 223 [some (.ref a0), some (.ref a1), some (.ref a2), some (.ref a3), some (.int x4), o5, o6] [.int v2, .int v1, .ref a2, .int w] h =
  mm_rI E h a0 (x4 + (mm_i 3)) fun v3 =>
  mm_rI E h a0 (x4 + (mm_i 4)) fun v4 =>
  lw_blk E cl kn m 235 [some (.ref a0), some (.ref a1), some (.ref a2), some (.ref a3), some (.int x4), o5, o6] [.int v4, .int v3, .int v2, .int v1, .ref a2, .int w] h := (rfl)
set_option maxRecDepth 20000 in
set_option maxHeartbeats 4000000 in
theorem lw_g5 (E : mm_E) (cl : mm_F) (kn : mm_K) (m : Nat) (a0 : Nat) (a1 : Nat) (a2 : Nat) (a3 : Nat) (x4 : Int32) (o5 : Option Value) (o6 : Option Value) (w : Int32) (v1 : Int32) (v2 : Int32) (v3 : Int32) (v4 : Int32) (h : mm_H) :
  lw_blk E cl kn (m + 20) 235 [some (.ref a0), some (.ref a1), some (.ref a2), some (.ref a3), some (.int x4), o5, o6] [.int v4, .int v3, .int v2, .int v1, .ref a2, .int w] h =
  mm_rI E h a0 (x4 + (mm_i 5)) fun v5 =>
  mm_cI [] (cl 228 [.ref a2, .int v1, .int v2, .int v3, .int v4, .int v5] h) fun u h =>
  (mm_br (w = u) (
  kn 1812 [some (.ref a0), some (.ref a1), some (.ref a2), some (.ref a3), some (.int x4), o5, o6] [] h) (
  (mm_bz (mm_i 0) (some (.inl (some (.int (mm_i 0))), h))))) := (rfl)
set_option maxRecDepth 20000 in
set_option maxHeartbeats 4000000 in
theorem mm_e282_176 (E : mm_E) (cl : mm_F) (n : Nat) (a0 : Nat) (a1 : Nat) (a2 : Nat) (a3 : Nat) (x4 : Int32) (o5 : Option Value) (o6 : Option Value) (h : mm_H) :
  mm_r282_176 E cl (n + 1) a0 a1 a2 a3 x4 o5 o6 h =
  mm_rI E h a0 (x4 + (mm_i 1)) fun v_1 =>
  mm_rI E h a0 (x4 + (mm_i 2)) fun v_2 =>
  mm_rI E h a0 (x4 + (mm_i 3)) fun v_3 =>
  mm_rI E h a0 (x4 + (mm_i 4)) fun v_4 =>
  mm_rI E h a0 (x4 + (mm_i 5)) fun v_5 =>
  mm_cI [] (cl 102 [.ref a1, .int v_1, .int v_2, .int v_3, .int v_4, .int v_5] h) fun v_7 h_6 =>
  mm_rI E h_6 a0 (x4 + (mm_i 1)) fun v_8 =>
  mm_rI E h_6 a0 (x4 + (mm_i 2)) fun v_9 =>
  mm_rI E h_6 a0 (x4 + (mm_i 3)) fun v_10 =>
  mm_rI E h_6 a0 (x4 + (mm_i 4)) fun v_11 =>
  mm_rI E h_6 a0 (x4 + (mm_i 5)) fun v_12 =>
  mm_cI [] (cl 228 [.ref a2, .int v_8, .int v_9, .int v_10, .int v_11, .int v_12] h_6) fun v_14 h_13 =>
  (mm_br (v_7 = v_14) (
  mm_r282_1812 E cl n a0 a1 a2 a3 x4 o5 o6 h_13) (
  (mm_bz (mm_i 0) (some (.inl (some (.int (mm_i 0))), h_13))))) := by
  have e : mm_r282_176 E cl (n + 1) a0 a1 a2 a3 x4 o5 o6 h = lw_blk E cl (lw_run E cl n) (2932 + 20 + 10 + 11 + 6 + 10 + 11) 176 [some (.ref a0), some (.ref a1), some (.ref a2), some (.ref a3), some (.int x4), o5, o6] [] h := by
    show lw_blk E cl (lw_run E cl n) 3000 176 [some (.ref a0), some (.ref a1), some (.ref a2), some (.ref a3), some (.int x4), o5, o6] [] h = _
    rw [show (3000 : Nat) = (2932 + 20 + 10 + 11 + 6 + 10 + 11) from rfl]
  rw [e, lw_g0]
  simp only [lw_g1, lw_g2, lw_g3, lw_g4, lw_g5]
  rfl
