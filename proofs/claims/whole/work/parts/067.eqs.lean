/-! EQUATIONS of the runs (by program: wip/whole/eqgen.py) -/
-- Mod.days
set_option maxRecDepth 20000 in
set_option maxHeartbeats 4000000 in
theorem mm_e222_96 (E : mm_E) (cl : mm_F) (n : Nat) (a0 : Nat) (x1 : Int32) (x2 : Int32) (x3 : Int32) (x4 : Int32) (x5 : Int32) (o6 : Option Value) (h : mm_H) :
  mm_run E cl mm_m222 (n + 1) 96 [some (.ref a0), some (.int x1), some (.int x2), some (.int x3), some (.int x4), some (.int x5), o6] [] h =
  (mm_br (40 ≤ x5) (
  (mm_br (x2 = 0) (
    some (.inl (some (.int x3)), h)) (
    some (.inl (some (.int x4)), h)))) (
  mm_cI [] (cl 219 [.ref a0, .int x1, .int x5] h) fun v_2 h_1 =>
    (mm_br (0 ≤ v_2) (
    mm_run E cl mm_m222 n 96 [some (.ref a0), some (.int x1), some (.int x2), some (.int (x3 + 0)), some (.int (mm_mn x4 v_2)), some (.int (x5 + 1)), some (.int v_2)] [] h_1) (
    mm_run E cl mm_m222 n 96 [some (.ref a0), some (.int x1), some (.int x2), some (.int (x3 + 1)), some (.int (mm_mn x4 v_2)), some (.int (x5 + 1)), some (.int v_2)] [] h_1)))) := rfl
-- Mod.aheadOf
set_option maxRecDepth 20000 in
set_option maxHeartbeats 4000000 in
theorem mm_e223_0 (E : mm_E) (cl : mm_F) (n : Nat) (a0 : Nat) (x1 : Int32) (h : mm_H) :
  mm_run E cl mm_m223 (n + 1) 0 [some (.ref a0), some (.int x1), none, none] [] h =
  mm_run E cl mm_m223 n 4 [some (.ref a0), some (.int x1), some (.int (-1)), some (.int 0)] [] h := rfl
-- Mod.aheadOf
set_option maxRecDepth 20000 in
set_option maxHeartbeats 4000000 in
theorem mm_e223_4 (E : mm_E) (cl : mm_F) (n : Nat) (a0 : Nat) (x1 : Int32) (x2 : Int32) (x3 : Int32) (h : mm_H) :
  mm_run E cl mm_m223 (n + 1) 4 [some (.ref a0), some (.int x1), some (.int x2), some (.int x3)] [] h =
  mm_cI [] (cl 150 [.ref a0] h) fun v_2 h_1 =>
  (mm_br (v_2 ≤ x3) (
  (mm_br (x2 = (-1)) (
    some (.inl (some (.int (-1))), h_1)) (
    mm_cI [] (cl 163 [.ref a0, .int x2] h_1) fun v_4 h_3 =>
      mm_cI [] (cl 152 [.ref a0, .int x1, .int 0] h_3) fun v_6 h_5 =>
      mm_cI [] (cl 163 [.ref a0, .int x1] h_5) fun v_8 h_7 =>
      (mm_br ((v_4 + v_6) = v_8) (
      some (.inl (some (.int x2)), h_7)) (
      some (.inl (some (.int (-1))), h_7)))))) (
  mm_cI [] (cl 157 [.ref a0, .int x1] h_1) fun v_10 h_9 =>
    mm_cI [] (cl 159 [.int v_10, .int x3] h_9) fun v_12 h_11 =>
    (mm_br (v_12 = 0) (
    mm_run E cl mm_m223 n 4 [some (.ref a0), some (.int x1), some (.int x2), some (.int (x3 + 1))] [] h_11) (
    (mm_br (x2 = (-1)) (
      mm_run E cl mm_m223 n 4 [some (.ref a0), some (.int x1), some (.int x3), some (.int (x3 + 1))] [] h_11) (
      mm_cI [] (cl 163 [.ref a0, .int x3] h_11) fun v_14 h_13 =>
        mm_cI [] (cl 163 [.ref a0, .int x2] h_13) fun v_16 h_15 =>
        (mm_br (v_14 ≤ v_16) (
        mm_run E cl mm_m223 n 4 [some (.ref a0), some (.int x1), some (.int x2), some (.int (x3 + 1))] [] h_15) (
        mm_run E cl mm_m223 n 4 [some (.ref a0), some (.int x1), some (.int x3), some (.int (x3 + 1))] [] h_15)))))))) := rfl
-- Mod.chain
set_option maxRecDepth 20000 in
set_option maxHeartbeats 4000000 in
theorem mm_e224_0 (E : mm_E) (cl : mm_F) (n : Nat) (a0 : Nat) (x1 : Int32) (x2 : Int32) (h : mm_H) :
  mm_run E cl mm_m224 (n + 1) 0 [some (.ref a0), some (.int x1), some (.int x2), none, none] [] h =
  mm_pF h a0 9 0 (.int 0) fun h_1 =>
  mm_cI [] (cl 151 [.ref a0, .int x1] h_1) fun v_3 h_2 =>
  (mm_br (v_3 = 0) (
  mm_cI [] (cl 146 [.ref a0, .int 1] h_2) fun v_5 h_4 =>
    some (.inl (some (.int v_5)), h_4)) (
  (mm_br ((-1) ≤ x2) (
    mm_run E cl mm_m224 n 29 [some (.ref a0), some (.int x1), some (.int x2), some (.int 0), some (.int x1)] [] h_2) (
    mm_cI [] (cl 146 [.ref a0, .int 1] h_2) fun v_7 h_6 =>
      some (.inl (some (.int v_7)), h_6))))) := rfl
-- Mod.chain
set_option maxRecDepth 20000 in
set_option maxHeartbeats 4000000 in
theorem mm_e224_29 (E : mm_E) (cl : mm_F) (n : Nat) (a0 : Nat) (x1 : Int32) (x2 : Int32) (x3 : Int32) (x4 : Int32) (h : mm_H) :
  mm_run E cl mm_m224 (n + 1) 29 [some (.ref a0), some (.int x1), some (.int x2), some (.int x3), some (.int x4)] [] h =
  (mm_br (x4 = (-1)) (
  (mm_br (x2 = (-1)) (
    some (.inl (some (.int x3)), h)) (
    mm_cI [] (cl 146 [.ref a0, .int 1] h) fun v_2 h_1 =>
      some (.inl (some (.int v_2)), h_1)))) (
  (mm_br (x3 = x2) (
    some (.inl (some (.int x4)), h)) (
    mm_cI [] (cl 223 [.ref a0, .int x4] h) fun v_4 h_3 =>
      mm_run E cl mm_m224 n 29 [some (.ref a0), some (.int x1), some (.int x2), some (.int (x3 + 1)), some (.int v_4)] [] h_3)))) := rfl
-- Mod.copy
set_option maxRecDepth 20000 in
set_option maxHeartbeats 4000000 in
theorem mm_e225_0 (E : mm_E) (cl : mm_F) (n : Nat) (a0 : Nat) (a1 : Nat) (h : mm_H) :
  mm_run E cl mm_m225 (n + 1) 0 [some (.ref a0), some (.ref a1), none] [] h =
  mm_run E cl mm_m225 n 2 [some (.ref a0), some (.ref a1), some (.int 0)] [] h := rfl
-- Mod.copy
set_option maxRecDepth 20000 in
set_option maxHeartbeats 4000000 in
theorem mm_e225_2 (E : mm_E) (cl : mm_F) (n : Nat) (a0 : Nat) (a1 : Nat) (x2 : Int32) (h : mm_H) :
  mm_run E cl mm_m225 (n + 1) 2 [some (.ref a0), some (.ref a1), some (.int x2)] [] h =
  mm_ln E h a0 fun v_1 =>
  (mm_br (v_1 ≤ x2) (
  some (.inl none, h)) (
  mm_rI E h a1 x2 fun v_2 =>
    mm_wI h a0 x2 v_2 fun h_3 =>
    mm_run E cl mm_m225 n 2 [some (.ref a0), some (.ref a1), some (.int (x2 + 1))] [] h_3)) := rfl
-- Mod.image
set_option maxRecDepth 20000 in
set_option maxHeartbeats 4000000 in
theorem mm_e226_0 (E : mm_E) (cl : mm_F) (n : Nat) (a0 : Nat) (h : mm_H) :
  mm_run E cl mm_m226 (n + 1) 0 [some (.ref a0)] [] h =
  mm_pF h a0 9 0 (.int 0) fun h_1 =>
  (mm_bz 1 (
  mm_pF h_1 a0 9 24 (.int 1) fun h_2 =>
  mm_gR h_2 a0 9 21 fun p_3 =>
  mm_gR h_2 a0 9 1 fun p_4 =>
  mm_cV [] (cl 225 [.ref p_3, .ref p_4] h_2) fun h_5 =>
  mm_gR h_5 a0 9 22 fun p_6 =>
  mm_gR h_5 a0 9 5 fun p_7 =>
  mm_cV [] (cl 225 [.ref p_6, .ref p_7] h_5) fun h_8 =>
  mm_gR h_8 a0 9 23 fun p_9 =>
  mm_gR h_8 a0 9 6 fun p_10 =>
  mm_cV [] (cl 225 [.ref p_9, .ref p_10] h_8) fun h_11 =>
  some (.inl none, h_11))) := rfl
-- Mod.back
set_option maxRecDepth 20000 in
set_option maxHeartbeats 4000000 in
theorem mm_e227_0 (E : mm_E) (cl : mm_F) (n : Nat) (a0 : Nat) (h : mm_H) :
  mm_run E cl mm_m227 (n + 1) 0 [some (.ref a0)] [] h =
  mm_pF h a0 9 0 (.int 0) fun h_1 =>
  mm_gI h_1 a0 9 24 fun v_2 =>
  (mm_br (v_2 = 0) (
  (mm_bz 0 (some (.inl (some (.int 0)), h_1)))) (
  mm_gR h_1 a0 9 1 fun p_3 =>
    mm_gR h_1 a0 9 21 fun p_4 =>
    mm_cV [] (cl 225 [.ref p_3, .ref p_4] h_1) fun h_5 =>
    mm_gR h_5 a0 9 5 fun p_6 =>
    mm_gR h_5 a0 9 22 fun p_7 =>
    mm_cV [] (cl 225 [.ref p_6, .ref p_7] h_5) fun h_8 =>
    mm_gR h_8 a0 9 6 fun p_9 =>
    mm_gR h_8 a0 9 23 fun p_10 =>
    mm_cV [] (cl 225 [.ref p_9, .ref p_10] h_8) fun h_11 =>
    mm_pF h_11 a0 9 4 (.int 0) fun h_12 =>
    (mm_bz 1 (some (.inl (some (.int 1)), h_12))))) := rfl
-- Mod.feed
set_option maxRecDepth 20000 in
set_option maxHeartbeats 4000000 in
theorem mm_e228_0 (E : mm_E) (cl : mm_F) (n : Nat) (a0 : Nat) (x1 : Int32) (x2 : Int32) (x3 : Int32) (x4 : Int32) (x5 : Int32) (h : mm_H) :
  mm_run E cl mm_m228 (n + 1) 0 [some (.ref a0), some (.int x1), some (.int x2), some (.int x3), some (.int x4), some (.int x5), none, none] [] h =
  mm_pF h a0 9 0 (.int 0) fun h_1 =>
  mm_gI h_1 a0 9 26 fun v_2 =>
  (mm_br ((v_2 + 20) ≤ 400) (
  mm_run E cl mm_m228 n 23 [some (.ref a0), some (.int x1), some (.int x2), some (.int x3), some (.int x4), some (.int x5), some (.int 0), none] [] h_1) (
  some (.inl (some (.int (-1))), h_1))) := rfl
-- Mod.feed
set_option maxRecDepth 20000 in
set_option maxHeartbeats 4000000 in
theorem mm_e228_23 (E : mm_E) (cl : mm_F) (n : Nat) (a0 : Nat) (x1 : Int32) (x2 : Int32) (x3 : Int32) (x4 : Int32) (x5 : Int32) (x6 : Int32) (o7 : Option Value) (h : mm_H) :
  mm_run E cl mm_m228 (n + 1) 23 [some (.ref a0), some (.int x1), some (.int x2), some (.int x3), some (.int x4), some (.int x5), some (.int x6), o7] [] h =
  (mm_br (20 ≤ x6) (
  mm_gI h a0 9 26 fun v_1 =>
    some (.inl (some (.int v_1)), h)) (
  (mm_br (4 ≤ x6) (
    (mm_br (8 ≤ x6) (
      (mm_br (12 ≤ x6) (
        (mm_br (16 ≤ x6) (
          mm_run E cl mm_m228 n 76 [some (.ref a0), some (.int x1), some (.int x2), some (.int x3), some (.int x4), some (.int x5), some (.int x6), o7] [.int x5] h) (
          mm_run E cl mm_m228 n 76 [some (.ref a0), some (.int x1), some (.int x2), some (.int x3), some (.int x4), some (.int x5), some (.int x6), o7] [.int x4] h))) (
        mm_run E cl mm_m228 n 76 [some (.ref a0), some (.int x1), some (.int x2), some (.int x3), some (.int x4), some (.int x5), some (.int x6), o7] [.int x3] h))) (
      mm_run E cl mm_m228 n 76 [some (.ref a0), some (.int x1), some (.int x2), some (.int x3), some (.int x4), some (.int x5), some (.int x6), o7] [.int x2] h))) (
    mm_run E cl mm_m228 n 76 [some (.ref a0), some (.int x1), some (.int x2), some (.int x3), some (.int x4), some (.int x5), some (.int x6), o7] [.int x1] h)))) := rfl
-- Mod.feed
set_option maxRecDepth 20000 in
set_option maxHeartbeats 4000000 in
theorem mm_e228_76 (E : mm_E) (cl : mm_F) (n : Nat) (a0 : Nat) (x1 : Int32) (x2 : Int32) (x3 : Int32) (x4 : Int32) (x5 : Int32) (x6 : Int32) (o7 : Option Value) (s0 : Int32) (h : mm_H) :
  mm_run E cl mm_m228 (n + 1) 76 [some (.ref a0), some (.int x1), some (.int x2), some (.int x3), some (.int x4), some (.int x5), some (.int x6), o7] [.int s0] h =
  mm_gR h a0 9 25 fun p_1 =>
  mm_gI h a0 9 26 fun v_2 =>
  (mm_nz 4 (
  mm_wI h p_1 v_2 ((s0 >>> ((24 - (8 * (x6 - x6 / 4 * 4))) &&& 31)) &&& 255) fun h_3 =>
  mm_gI h_3 a0 9 26 fun v_4 =>
  mm_pF h_3 a0 9 26 (.int (v_4 + 1)) fun h_5 =>
  mm_run E cl mm_m228 n 23 [some (.ref a0), some (.int x1), some (.int x2), some (.int x3), some (.int x4), some (.int x5), some (.int (x6 + 1)), some (.int s0)] [] h_5)) := rfl
-- Mod.byteAt
set_option maxRecDepth 20000 in
set_option maxHeartbeats 4000000 in
theorem mm_e229_0 (E : mm_E) (cl : mm_F) (n : Nat) (a0 : Nat) (x1 : Int32) (h : mm_H) :
  mm_run E cl mm_m229 (n + 1) 0 [some (.ref a0), some (.int x1)] [] h =
  mm_gI h a0 9 27 fun v_1 =>
  (mm_br (v_1 ≤ x1) (
  some (.inl (some (.int (-1))), h)) (
  mm_gR h a0 9 25 fun p_2 =>
    mm_rI E h p_2 x1 fun v_3 =>
    some (.inl (some (.int v_3)), h))) := rfl
-- Mod.isSmall
set_option maxRecDepth 20000 in
set_option maxHeartbeats 4000000 in
theorem mm_e230_0 (E : mm_E) (cl : mm_F) (n : Nat) (x0 : Int32) (h : mm_H) :
  mm_run E cl mm_m230 (n + 1) 0 [some (.int x0)] [] h =
  (mm_br (x0 < 97) (
  (mm_bz 0 (some (.inl (some (.int 0)), h)))) (
  (mm_br (122 < x0) (
    (mm_bz 0 (some (.inl (some (.int 0)), h)))) (
    (mm_bz 1 (some (.inl (some (.int 1)), h))))))) := rfl
-- Mod.isFigure
set_option maxRecDepth 20000 in
set_option maxHeartbeats 4000000 in
theorem mm_e231_0 (E : mm_E) (cl : mm_F) (n : Nat) (x0 : Int32) (h : mm_H) :
  mm_run E cl mm_m231 (n + 1) 0 [some (.int x0)] [] h =
  (mm_br (x0 < 48) (
  (mm_bz 0 (some (.inl (some (.int 0)), h)))) (
  (mm_br (57 < x0) (
    (mm_bz 0 (some (.inl (some (.int 0)), h)))) (
    (mm_bz 1 (some (.inl (some (.int 1)), h))))))) := rfl
-- Mod.step
set_option maxRecDepth 20000 in
set_option maxHeartbeats 4000000 in
theorem mm_e232_0 (E : mm_E) (cl : mm_F) (n : Nat) (a0 : Nat) (h : mm_H) :
  mm_run E cl mm_m232 (n + 1) 0 [some (.ref a0), none] [] h =
  mm_gI h a0 9 28 fun v_1 =>
  mm_cI [] (cl 229 [.ref a0, .int v_1] h) fun v_3 h_2 =>
  (mm_br (v_3 = 32) (
  mm_gI h_2 a0 9 28 fun v_4 =>
    mm_pF h_2 a0 9 28 (.int (v_4 + 1)) fun h_5 =>
    mm_run E cl mm_m232 n 0 [some (.ref a0), none] [] h_5) (
  mm_gI h_2 a0 9 28 fun v_6 =>
    mm_cI [] (cl 229 [.ref a0, .int v_6] h_2) fun v_8 h_7 =>
    (mm_br (v_8 = 10) (
    mm_gI h_7 a0 9 28 fun v_26 =>
      mm_pF h_7 a0 9 28 (.int (v_26 + 1)) fun h_27 =>
      mm_run E cl mm_m232 n 0 [some (.ref a0), none] [] h_27) (
    mm_gI h_7 a0 9 28 fun v_9 =>
      mm_pF h_7 a0 9 30 (.int v_9) fun h_10 =>
      mm_gI h_10 a0 9 28 fun v_11 =>
      mm_cI [] (cl 229 [.ref a0, .int v_11] h_10) fun v_13 h_12 =>
      (mm_br (v_13 = (-1)) (
      mm_pF h_12 a0 9 29 (.int 0) fun h_23 =>
        mm_gI h_23 a0 9 28 fun v_24 =>
        mm_pF h_23 a0 9 31 (.int v_24) fun h_25 =>
        some (.inl none, h_25)) (
      mm_cI [] (cl 230 [.int v_13] h_12) fun v_15 h_14 =>
        (mm_br (v_15 = 0) (
        mm_cI [] (cl 231 [.int v_13] h_14) fun v_17 h_16 =>
          (mm_br (v_17 = 0) (
          mm_gI h_16 a0 9 28 fun v_18 =>
            mm_pF h_16 a0 9 28 (.int (v_18 + 1)) fun h_19 =>
            mm_pF h_19 a0 9 29 (.int 3) fun h_20 =>
            mm_gI h_20 a0 9 28 fun v_21 =>
            mm_pF h_20 a0 9 31 (.int v_21) fun h_22 =>
            some (.inl none, h_22)) (
          mm_run E cl mm_m232 n 118 [some (.ref a0), some (.int v_13)] [] h_16))) (
        mm_run E cl mm_m232 n 76 [some (.ref a0), some (.int v_13)] [] h_14)))))))) := rfl
-- Mod.step
set_option maxRecDepth 20000 in
set_option maxHeartbeats 4000000 in
theorem mm_e232_76 (E : mm_E) (cl : mm_F) (n : Nat) (a0 : Nat) (x1 : Int32) (h : mm_H) :
  mm_run E cl mm_m232 (n + 1) 76 [some (.ref a0), some (.int x1)] [] h =
  mm_gI h a0 9 28 fun v_1 =>
  mm_cI [] (cl 229 [.ref a0, .int v_1] h) fun v_3 h_2 =>
  mm_cI [] (cl 230 [.int v_3] h_2) fun v_5 h_4 =>
  (mm_br (v_5 = 0) (
  mm_pF h_4 a0 9 29 (.int 1) fun h_6 =>
    mm_gI h_6 a0 9 28 fun v_7 =>
    mm_pF h_6 a0 9 31 (.int v_7) fun h_8 =>
    some (.inl none, h_8)) (
  mm_gI h_4 a0 9 28 fun v_9 =>
    mm_pF h_4 a0 9 28 (.int (v_9 + 1)) fun h_10 =>
    mm_run E cl mm_m232 n 76 [some (.ref a0), some (.int x1)] [] h_10)) := rfl
-- Mod.step
set_option maxRecDepth 20000 in
set_option maxHeartbeats 4000000 in
theorem mm_e232_118 (E : mm_E) (cl : mm_F) (n : Nat) (a0 : Nat) (x1 : Int32) (h : mm_H) :
  mm_run E cl mm_m232 (n + 1) 118 [some (.ref a0), some (.int x1)] [] h =
  mm_gI h a0 9 28 fun v_1 =>
  mm_cI [] (cl 229 [.ref a0, .int v_1] h) fun v_3 h_2 =>
  mm_cI [] (cl 231 [.int v_3] h_2) fun v_5 h_4 =>
  (mm_br (v_5 = 0) (
  mm_pF h_4 a0 9 29 (.int 2) fun h_6 =>
    mm_gI h_6 a0 9 28 fun v_7 =>
    mm_pF h_6 a0 9 31 (.int v_7) fun h_8 =>
    some (.inl none, h_8)) (
  mm_gI h_4 a0 9 28 fun v_9 =>
    mm_pF h_4 a0 9 28 (.int (v_9 + 1)) fun h_10 =>
    mm_run E cl mm_m232 n 118 [some (.ref a0), some (.int x1)] [] h_10)) := rfl
-- Mod.wrong
set_option maxRecDepth 20000 in
set_option maxHeartbeats 4000000 in
theorem mm_e233_0 (E : mm_E) (cl : mm_F) (n : Nat) (a0 : Nat) (x1 : Int32) (h : mm_H) :
  mm_run E cl mm_m233 (n + 1) 0 [some (.ref a0), some (.int x1)] [] h =
  mm_gI h a0 9 32 fun v_1 =>
  (mm_br (v_1 = 0) (
  mm_pF h a0 9 32 (.int x1) fun h_2 =>
    mm_gI h_2 a0 9 30 fun v_3 =>
    mm_pF h_2 a0 9 33 (.int v_3) fun h_4 =>
    some (.inl none, h_4)) (
  some (.inl none, h))) := rfl
-- Mod.isSign
set_option maxRecDepth 20000 in
set_option maxHeartbeats 4000000 in
theorem mm_e234_0 (E : mm_E) (cl : mm_F) (n : Nat) (a0 : Nat) (x1 : Int32) (h : mm_H) :
  mm_run E cl mm_m234 (n + 1) 0 [some (.ref a0), some (.int x1)] [] h =
  mm_gI h a0 9 32 fun v_1 =>
  (mm_br (v_1 = 0) (
  mm_gI h a0 9 29 fun v_2 =>
    (mm_br (v_2 = 3) (
    mm_gR h a0 9 25 fun p_3 =>
      mm_gI h a0 9 30 fun v_4 =>
      mm_rI E h p_3 v_4 fun v_5 =>
      (mm_br (v_5 = x1) (
      (mm_bz 1 (some (.inl (some (.int 1)), h)))) (
      (mm_bz 0 (some (.inl (some (.int 0)), h)))))) (
    (mm_bz 0 (some (.inl (some (.int 0)), h)))))) (
  (mm_bz 0 (some (.inl (some (.int 0)), h))))) := rfl
-- Mod.isWord
set_option maxRecDepth 20000 in
set_option maxHeartbeats 4000000 in
theorem mm_e235_0 (E : mm_E) (cl : mm_F) (n : Nat) (a0 : Nat) (a1 : Nat) (h : mm_H) :
  mm_run E cl mm_m235 (n + 1) 0 [some (.ref a0), some (.ref a1), none, none] [] h =
  mm_gI h a0 9 32 fun v_1 =>
  (mm_br (v_1 = 0) (
  mm_gI h a0 9 29 fun v_2 =>
    (mm_br (v_2 = 1) (
    mm_sl E a1 fun v_3 =>
      mm_gI h a0 9 31 fun v_4 =>
      mm_gI h a0 9 30 fun v_5 =>
      (mm_br (v_3 = (v_4 - v_5)) (
      mm_run E cl mm_m235 n 39 [some (.ref a0), some (.ref a1), some (.int 1), some (.int 0)] [] h) (
      mm_run E cl mm_m235 n 39 [some (.ref a0), some (.ref a1), some (.int 0), some (.int 0)] [] h))) (
    mm_run E cl mm_m235 n 39 [some (.ref a0), some (.ref a1), some (.int 0), some (.int 0)] [] h))) (
  mm_run E cl mm_m235 n 39 [some (.ref a0), some (.ref a1), some (.int 0), some (.int 0)] [] h)) := rfl
-- Mod.isWord
set_option maxRecDepth 20000 in
set_option maxHeartbeats 4000000 in
theorem mm_e235_39 (E : mm_E) (cl : mm_F) (n : Nat) (a0 : Nat) (a1 : Nat) (x2 : Int32) (x3 : Int32) (h : mm_H) :
  mm_run E cl mm_m235 (n + 1) 39 [some (.ref a0), some (.ref a1), some (.int x2), some (.int x3)] [] h =
  (mm_br (x2 = 0) (
  (mm_bz x2 (some (.inl (some (.int x2)), h)))) (
  mm_sl E a1 fun v_1 =>
    (mm_br (v_1 ≤ x3) (
    (mm_bz x2 (some (.inl (some (.int x2)), h)))) (
    mm_sa E a1 x3 fun v_2 =>
      mm_gR h a0 9 25 fun p_3 =>
      mm_gI h a0 9 30 fun v_4 =>
      mm_rI E h p_3 (v_4 + x3) fun v_5 =>
      (mm_br (v_2 = v_5) (
      mm_run E cl mm_m235 n 39 [some (.ref a0), some (.ref a1), some (.int 1), some (.int (x3 + 1))] [] h) (
      mm_run E cl mm_m235 n 39 [some (.ref a0), some (.ref a1), some (.int 0), some (.int (x3 + 1))] [] h)))))) := rfl
-- Mod.pass
set_option maxRecDepth 20000 in
set_option maxHeartbeats 4000000 in
theorem mm_e236_0 (E : mm_E) (cl : mm_F) (n : Nat) (a0 : Nat) (h : mm_H) :
  mm_run E cl mm_m236 (n + 1) 0 [some (.ref a0)] [] h =
  mm_gI h a0 9 32 fun v_1 =>
  (mm_br (v_1 = 0) (
  mm_cV [] (cl 232 [.ref a0] h) fun h_2 =>
    some (.inl none, h_2)) (
  some (.inl none, h))) := rfl
-- Mod.must
set_option maxRecDepth 20000 in
set_option maxHeartbeats 4000000 in
theorem mm_e237_0 (E : mm_E) (cl : mm_F) (n : Nat) (a0 : Nat) (x1 : Int32) (h : mm_H) :
  mm_run E cl mm_m237 (n + 1) 0 [some (.ref a0), some (.int x1)] [] h =
  mm_cI [] (cl 234 [.ref a0, .int x1] h) fun v_2 h_1 =>
  (mm_br (v_2 = 0) (
  mm_cV [] (cl 233 [.ref a0, .int 1] h_1) fun h_4 =>
    mm_cV [] (cl 236 [.ref a0] h_4) fun h_5 =>
    some (.inl none, h_5)) (
  mm_cV [] (cl 236 [.ref a0] h_1) fun h_3 =>
    some (.inl none, h_3))) := rfl
-- Mod.opens
set_option maxRecDepth 20000 in
set_option maxHeartbeats 4000000 in
theorem mm_e238_0 (E : mm_E) (cl : mm_F) (n : Nat) (a0 : Nat) (x1 : Int32) (h : mm_H) :
  mm_run E cl mm_m238 (n + 1) 0 [some (.ref a0), some (.int x1)] [] h =
  mm_pF h a0 9 27 (.int x1) fun h_1 =>
  mm_pF h_1 a0 9 28 (.int 0) fun h_2 =>
  mm_pF h_2 a0 9 32 (.int 0) fun h_3 =>
  mm_pF h_3 a0 9 35 (.int 0) fun h_4 =>
  mm_cV [] (cl 232 [.ref a0] h_4) fun h_5 =>
  some (.inl none, h_5) := rfl
-- Mod.readNumber
set_option maxRecDepth 20000 in
set_option maxHeartbeats 4000000 in
theorem mm_e239_0 (E : mm_E) (cl : mm_F) (n : Nat) (a0 : Nat) (x1 : Int32) (h : mm_H) :
  mm_run E cl mm_m239 (n + 1) 0 [some (.ref a0), some (.int x1), none, none] [] h =
  mm_gI h a0 9 32 fun v_1 =>
  (mm_br (v_1 = 0) (
  mm_gI h a0 9 29 fun v_3 =>
    (mm_br (v_3 = 2) (
    mm_gI h a0 9 30 fun v_4 =>
      mm_run E cl mm_m239 n 27 [some (.ref a0), some (.int x1), some (.int 0), some (.int v_4)] [] h) (
    mm_cV [] (cl 233 [.ref a0, .int 1] h) fun h_5 =>
      mm_gI h_5 a0 9 30 fun v_6 =>
      mm_run E cl mm_m239 n 27 [some (.ref a0), some (.int x1), some (.int 0), some (.int v_6)] [] h_5))) (
  mm_gI h a0 9 30 fun v_2 =>
    mm_run E cl mm_m239 n 27 [some (.ref a0), some (.int x1), some (.int 0), some (.int v_2)] [] h)) := rfl
-- Mod.readNumber
set_option maxRecDepth 20000 in
set_option maxHeartbeats 4000000 in
theorem mm_e239_27 (E : mm_E) (cl : mm_F) (n : Nat) (a0 : Nat) (x1 : Int32) (x2 : Int32) (x3 : Int32) (h : mm_H) :
  mm_run E cl mm_m239 (n + 1) 27 [some (.ref a0), some (.int x1), some (.int x2), some (.int x3)] [] h =
  mm_gI h a0 9 32 fun v_1 =>
  (mm_br (v_1 = 0) (
  mm_gI h a0 9 31 fun v_5 =>
    (mm_br (v_5 ≤ x3) (
    (mm_br (x2 ≤ x1) (
      mm_cV [] (cl 236 [.ref a0] h) fun h_6 =>
        some (.inl (some (.int x2)), h_6)) (
      mm_cV [] (cl 233 [.ref a0, .int 2] h) fun h_7 =>
        mm_cV [] (cl 236 [.ref a0] h_7) fun h_8 =>
        some (.inl (some (.int x2)), h_8)))) (
    mm_gR h a0 9 25 fun p_9 =>
      mm_rI E h p_9 x3 fun v_10 =>
      mm_run E cl mm_m239 n 27 [some (.ref a0), some (.int x1), some (.int (mm_mn 10000 (((10 * x2) + v_10) - 48))), some (.int (x3 + 1))] [] h))) (
  (mm_br (x2 ≤ x1) (
    mm_cV [] (cl 236 [.ref a0] h) fun h_2 =>
      some (.inl (some (.int x2)), h_2)) (
    mm_cV [] (cl 233 [.ref a0, .int 2] h) fun h_3 =>
      mm_cV [] (cl 236 [.ref a0] h_3) fun h_4 =>
      some (.inl (some (.int x2)), h_4))))) := rfl
-- Mod.ends
set_option maxRecDepth 20000 in
set_option maxHeartbeats 4000000 in
theorem mm_e240_0 (E : mm_E) (cl : mm_F) (n : Nat) (a0 : Nat) (h : mm_H) :
  mm_run E cl mm_m240 (n + 1) 0 [some (.ref a0)] [] h =
  mm_pF h a0 9 26 (.int 0) fun h_1 =>
  mm_gI h_1 a0 9 32 fun v_2 =>
  (mm_br (v_2 = 0) (
  mm_pF h_1 a0 9 34 (.int (-1)) fun h_6 =>
    mm_gI h_6 a0 9 32 fun v_7 =>
    some (.inl (some (.int v_7)), h_6)) (
  mm_gI h_1 a0 9 33 fun v_3 =>
    mm_pF h_1 a0 9 34 (.int v_3) fun h_4 =>
    mm_gI h_4 a0 9 32 fun v_5 =>
    some (.inl (some (.int v_5)), h_4))) := rfl
-- Mod.fault
set_option maxRecDepth 20000 in
set_option maxHeartbeats 4000000 in
theorem mm_e241_0 (E : mm_E) (cl : mm_F) (n : Nat) (a0 : Nat) (h : mm_H) :
  mm_run E cl mm_m241 (n + 1) 0 [some (.ref a0)] [] h =
  mm_pF h a0 9 0 (.int 0) fun h_1 =>
  mm_gI h_1 a0 9 34 fun v_2 =>
  some (.inl (some (.int v_2)), h_1) := rfl
-- Mod.isName
set_option maxRecDepth 20000 in
set_option maxHeartbeats 4000000 in
theorem mm_e242_0 (E : mm_E) (cl : mm_F) (n : Nat) (a0 : Nat) (h : mm_H) :
  mm_run E cl mm_m242 (n + 1) 0 [some (.ref a0)] [] h =
  mm_gI h a0 9 32 fun v_1 =>
  (mm_br (v_1 = 0) (
  mm_gI h a0 9 29 fun v_2 =>
    (mm_br (v_2 = 1) (
    mm_gI h a0 9 31 fun v_3 =>
      mm_gI h a0 9 30 fun v_4 =>
      (mm_br (6 < (v_3 - v_4)) (
      (mm_bz 0 (some (.inl (some (.int 0)), h)))) (
      mm_cI [] (cl 235 [.ref a0, .ref (E.2.2.1 25)] h) fun v_6 h_5 =>
        (mm_br (v_6 = 0) (
        mm_cI [] (cl 235 [.ref a0, .ref (E.2.2.1 26)] h_5) fun v_8 h_7 =>
          (mm_br (v_8 = 0) (
          mm_cI [] (cl 235 [.ref a0, .ref (E.2.2.1 27)] h_7) fun v_10 h_9 =>
            (mm_br (v_10 = 0) (
            mm_cI [] (cl 235 [.ref a0, .ref (E.2.2.1 28)] h_9) fun v_12 h_11 =>
              (mm_br (v_12 = 0) (
              mm_cI [] (cl 235 [.ref a0, .ref (E.2.2.1 29)] h_11) fun v_14 h_13 =>
                (mm_br (v_14 = 0) (
                mm_cI [] (cl 235 [.ref a0, .ref (E.2.2.1 30)] h_13) fun v_16 h_15 =>
                  (mm_br (v_16 = 0) (
                  (mm_bz 1 (some (.inl (some (.int 1)), h_15)))) (
                  (mm_bz 0 (some (.inl (some (.int 0)), h_15)))))) (
                (mm_bz 0 (some (.inl (some (.int 0)), h_13)))))) (
              (mm_bz 0 (some (.inl (some (.int 0)), h_11)))))) (
            (mm_bz 0 (some (.inl (some (.int 0)), h_9)))))) (
          (mm_bz 0 (some (.inl (some (.int 0)), h_7)))))) (
        (mm_bz 0 (some (.inl (some (.int 0)), h_5)))))))) (
    (mm_bz 0 (some (.inl (some (.int 0)), h)))))) (
  (mm_bz 0 (some (.inl (some (.int 0)), h))))) := rfl
-- Mod.named
set_option maxRecDepth 20000 in
set_option maxHeartbeats 4000000 in
theorem mm_e243_0 (E : mm_E) (cl : mm_F) (n : Nat) (a0 : Nat) (h : mm_H) :
  mm_run E cl mm_m243 (n + 1) 0 [some (.ref a0), none, none, none] [] h =
  mm_run E cl mm_m243 n 2 [some (.ref a0), some (.int 0), none, none] [] h := rfl
-- Mod.named
set_option maxRecDepth 20000 in
set_option maxHeartbeats 4000000 in
theorem mm_e243_2 (E : mm_E) (cl : mm_F) (n : Nat) (a0 : Nat) (x1 : Int32) (o2 : Option Value) (o3 : Option Value) (h : mm_H) :
  mm_run E cl mm_m243 (n + 1) 2 [some (.ref a0), some (.int x1), o2, o3] [] h =
  mm_gR h a0 9 2 fun p_1 =>
  mm_rI E h p_1 0 fun v_2 =>
  (mm_br (v_2 ≤ x1) (
  some (.inl (some (.int (-1))), h)) (
  mm_run E cl mm_m243 n 16 [some (.ref a0), some (.int x1), some (.int 1), some (.int 0)] [] h)) := rfl
-- Mod.named
set_option maxRecDepth 20000 in
set_option maxHeartbeats 4000000 in
theorem mm_e243_16 (E : mm_E) (cl : mm_F) (n : Nat) (a0 : Nat) (x1 : Int32) (x2 : Int32) (x3 : Int32) (h : mm_H) :
  mm_run E cl mm_m243 (n + 1) 16 [some (.ref a0), some (.int x1), some (.int x2), some (.int x3)] [] h =
  (mm_br (6 ≤ x3) (
  (mm_br (x2 = 0) (
    mm_run E cl mm_m243 n 2 [some (.ref a0), some (.int (x1 + 1)), some (.int x2), some (.int x3)] [] h) (
    some (.inl (some (.int x1)), h)))) (
  (mm_br (x2 = 0) (
    mm_run E cl mm_m243 n 16 [some (.ref a0), some (.int x1), some (.int 0), some (.int (x3 + 1))] [] h) (
    mm_gR h a0 9 2 fun p_1 =>
      mm_rI E h p_1 ((87 + (6 * x1)) + x3) fun v_2 =>
      mm_gI h a0 9 30 fun v_3 =>
      mm_gI h a0 9 31 fun v_4 =>
      (mm_br (v_4 ≤ (v_3 + x3)) (
      (mm_br (v_2 = 0) (
        mm_run E cl mm_m243 n 16 [some (.ref a0), some (.int x1), some (.int 1), some (.int (x3 + 1))] [] h) (
        mm_run E cl mm_m243 n 16 [some (.ref a0), some (.int x1), some (.int 0), some (.int (x3 + 1))] [] h))) (
      mm_gR h a0 9 25 fun p_5 =>
        mm_gI h a0 9 30 fun v_6 =>
        mm_rI E h p_5 (v_6 + x3) fun v_7 =>
        (mm_br (v_2 = (v_7 - 96)) (
        mm_run E cl mm_m243 n 16 [some (.ref a0), some (.int x1), some (.int 1), some (.int (x3 + 1))] [] h) (
        mm_run E cl mm_m243 n 16 [some (.ref a0), some (.int x1), some (.int 0), some (.int (x3 + 1))] [] h)))))))) := rfl
-- Mod.readKnown
set_option maxRecDepth 20000 in
set_option maxHeartbeats 4000000 in
theorem mm_e244_0 (E : mm_E) (cl : mm_F) (n : Nat) (a0 : Nat) (h : mm_H) :
  mm_run E cl mm_m244 (n + 1) 0 [some (.ref a0), none] [] h =
  mm_cI [] (cl 242 [.ref a0] h) fun v_2 h_1 =>
  (mm_br (v_2 = 0) (
  mm_cV [] (cl 233 [.ref a0, .int 1] h_1) fun h_6 =>
    mm_gI h_6 a0 9 32 fun v_7 =>
    (mm_br (v_7 = 0) (
    mm_cI [] (cl 243 [.ref a0] h_6) fun v_9 h_8 =>
      mm_run E cl mm_m244 n 27 [some (.ref a0), none] [.int v_9] h_8) (
    mm_run E cl mm_m244 n 27 [some (.ref a0), none] [.int 0] h_6))) (
  mm_gI h_1 a0 9 32 fun v_3 =>
    (mm_br (v_3 = 0) (
    mm_cI [] (cl 243 [.ref a0] h_1) fun v_5 h_4 =>
      mm_run E cl mm_m244 n 27 [some (.ref a0), none] [.int v_5] h_4) (
    mm_run E cl mm_m244 n 27 [some (.ref a0), none] [.int 0] h_1)))) := rfl
-- Mod.readKnown
set_option maxRecDepth 20000 in
set_option maxHeartbeats 4000000 in
theorem mm_e244_27 (E : mm_E) (cl : mm_F) (n : Nat) (a0 : Nat) (o1 : Option Value) (s0 : Int32) (h : mm_H) :
  mm_run E cl mm_m244 (n + 1) 27 [some (.ref a0), o1] [.int s0] h =
  (mm_br (s0 = (-1)) (
  mm_cV [] (cl 233 [.ref a0, .int 3] h) fun h_1 =>
    some (.inl (some (.int s0)), h_1)) (
  some (.inl (some (.int s0)), h))) := rfl
-- Mod.readStage
set_option maxRecDepth 20000 in
set_option maxHeartbeats 4000000 in
theorem mm_e245_0 (E : mm_E) (cl : mm_F) (n : Nat) (a0 : Nat) (h : mm_H) :
  mm_run E cl mm_m245 (n + 1) 0 [some (.ref a0), none, none, none] [] h =
  mm_gR h a0 9 2 fun p_1 =>
  mm_rI E h p_1 0 fun v_2 =>
  (mm_br (v_2 = 12) (
  mm_cV [] (cl 233 [.ref a0, .int 5] h) fun h_10 =>
    mm_cV [] (cl 236 [.ref a0] h_10) fun h_11 =>
    mm_cI [] (cl 242 [.ref a0] h_11) fun v_13 h_12 =>
    (mm_br (v_13 = 0) (
    mm_cV [] (cl 233 [.ref a0, .int 1] h_12) fun h_17 =>
      mm_run E cl mm_m245 n 48 [some (.ref a0), none, none, none] [] h_17) (
    mm_cI [] (cl 243 [.ref a0] h_12) fun v_15 h_14 =>
      (mm_br (v_15 = (-1)) (
      mm_run E cl mm_m245 n 48 [some (.ref a0), none, none, none] [] h_14) (
      mm_cV [] (cl 233 [.ref a0, .int 3] h_14) fun h_16 =>
        mm_run E cl mm_m245 n 48 [some (.ref a0), none, none, none] [] h_16))))) (
  mm_cV [] (cl 236 [.ref a0] h) fun h_3 =>
    mm_cI [] (cl 242 [.ref a0] h_3) fun v_5 h_4 =>
    (mm_br (v_5 = 0) (
    mm_cV [] (cl 233 [.ref a0, .int 1] h_4) fun h_9 =>
      mm_run E cl mm_m245 n 48 [some (.ref a0), none, none, none] [] h_9) (
    mm_cI [] (cl 243 [.ref a0] h_4) fun v_7 h_6 =>
      (mm_br (v_7 = (-1)) (
      mm_run E cl mm_m245 n 48 [some (.ref a0), none, none, none] [] h_6) (
      mm_cV [] (cl 233 [.ref a0, .int 3] h_6) fun h_8 =>
        mm_run E cl mm_m245 n 48 [some (.ref a0), none, none, none] [] h_8)))))) := rfl
-- Mod.readStage
set_option maxRecDepth 20000 in
set_option maxHeartbeats 4000000 in
theorem mm_e245_48 (E : mm_E) (cl : mm_F) (n : Nat) (a0 : Nat) (o1 : Option Value) (o2 : Option Value) (o3 : Option Value) (h : mm_H) :
  mm_run E cl mm_m245 (n + 1) 48 [some (.ref a0), o1, o2, o3] [] h =
  mm_gI h a0 9 32 fun v_1 =>
  (mm_br (v_1 = 0) (
  mm_gR h a0 9 2 fun p_2 =>
    mm_rI E h p_2 0 fun v_3 =>
    mm_run E cl mm_m245 n 65 [some (.ref a0), some (.int v_3), some (.int 0), o3] [] h) (
  some (.inl none, h))) := rfl
-- Mod.readStage
set_option maxRecDepth 20000 in
set_option maxHeartbeats 4000000 in
theorem mm_e245_65 (E : mm_E) (cl : mm_F) (n : Nat) (a0 : Nat) (x1 : Int32) (x2 : Int32) (o3 : Option Value) (h : mm_H) :
  mm_run E cl mm_m245 (n + 1) 65 [some (.ref a0), some (.int x1), some (.int x2), o3] [] h =
  (mm_br (6 ≤ x2) (
  mm_cV [] (cl 236 [.ref a0] h) fun h_1 =>
    mm_cI [] (cl 239 [.ref a0, .int 9] h_1) fun v_3 h_2 =>
    mm_gR h_2 a0 9 2 fun p_4 =>
    mm_cI [] (cl 239 [.ref a0, .int 999] h_2) fun v_6 h_5 =>
    mm_cV [] (cl 153 [.ref p_4, .int x1, .int v_3, .int v_6] h_5) fun h_7 =>
    mm_cI [] (cl 235 [.ref a0, .ref (E.2.2.1 26)] h_7) fun v_9 h_8 =>
    (mm_br (v_9 = 0) (
    mm_cI [] (cl 235 [.ref a0, .ref (E.2.2.1 27)] h_8) fun v_11 h_10 =>
      (mm_br (v_11 = 0) (
      mm_run E cl mm_m245 n 227 [some (.ref a0), some (.int x1), some (.int v_3), some (.int (3 + (7 * x1)))] [] h_10) (
      mm_cV [] (cl 236 [.ref a0] h_10) fun h_12 =>
        mm_gR h_12 a0 9 2 fun p_13 =>
        mm_cI [] (cl 239 [.ref a0, .int 99] h_12) fun v_15 h_14 =>
        mm_wI h_14 p_13 ((3 + (7 * x1)) + 3) v_15 fun h_16 =>
        mm_gR h_16 a0 9 2 fun p_17 =>
        mm_cI [] (cl 239 [.ref a0, .int 9999] h_16) fun v_19 h_18 =>
        mm_wI h_18 p_17 ((3 + (7 * x1)) + 4) v_19 fun h_20 =>
        mm_run E cl mm_m245 n 227 [some (.ref a0), some (.int x1), some (.int v_3), some (.int (3 + (7 * x1)))] [] h_20))) (
    mm_cV [] (cl 236 [.ref a0] h_8) fun h_21 =>
      mm_gR h_21 a0 9 2 fun p_22 =>
      mm_cI [] (cl 239 [.ref a0, .int 9] h_21) fun v_24 h_23 =>
      mm_wI h_23 p_22 ((3 + (7 * x1)) + 2) v_24 fun h_25 =>
      mm_cI [] (cl 235 [.ref a0, .ref (E.2.2.1 27)] h_25) fun v_27 h_26 =>
      (mm_br (v_27 = 0) (
      mm_run E cl mm_m245 n 227 [some (.ref a0), some (.int x1), some (.int v_3), some (.int (3 + (7 * x1)))] [] h_26) (
      mm_cV [] (cl 236 [.ref a0] h_26) fun h_28 =>
        mm_gR h_28 a0 9 2 fun p_29 =>
        mm_cI [] (cl 239 [.ref a0, .int 99] h_28) fun v_31 h_30 =>
        mm_wI h_30 p_29 ((3 + (7 * x1)) + 3) v_31 fun h_32 =>
        mm_gR h_32 a0 9 2 fun p_33 =>
        mm_cI [] (cl 239 [.ref a0, .int 9999] h_32) fun v_35 h_34 =>
        mm_wI h_34 p_33 ((3 + (7 * x1)) + 4) v_35 fun h_36 =>
        mm_run E cl mm_m245 n 227 [some (.ref a0), some (.int x1), some (.int v_3), some (.int (3 + (7 * x1)))] [] h_36))))) (
  mm_gR h a0 9 2 fun p_37 =>
    mm_gI h a0 9 30 fun v_38 =>
    mm_gI h a0 9 31 fun v_39 =>
    (mm_br (v_39 ≤ (v_38 + x2)) (
    mm_wI h p_37 ((87 + (6 * x1)) + x2) 0 fun h_40 =>
      mm_run E cl mm_m245 n 65 [some (.ref a0), some (.int x1), some (.int (x2 + 1)), o3] [] h_40) (
    mm_gR h a0 9 25 fun p_41 =>
      mm_gI h a0 9 30 fun v_42 =>
      mm_rI E h p_41 (v_42 + x2) fun v_43 =>
      mm_wI h p_37 ((87 + (6 * x1)) + x2) (v_43 - 96) fun h_44 =>
      mm_run E cl mm_m245 n 65 [some (.ref a0), some (.int x1), some (.int (x2 + 1)), o3] [] h_44)))) := rfl
-- Mod.readStage
set_option maxRecDepth 20000 in
set_option maxHeartbeats 4000000 in
theorem mm_e245_227 (E : mm_E) (cl : mm_F) (n : Nat) (a0 : Nat) (x1 : Int32) (x2 : Int32) (x3 : Int32) (h : mm_H) :
  mm_run E cl mm_m245 (n + 1) 227 [some (.ref a0), some (.int x1), some (.int x2), some (.int x3)] [] h =
  mm_cI [] (cl 235 [.ref a0, .ref (E.2.2.1 28)] h) fun v_2 h_1 =>
  (mm_br (v_2 = 0) (
  mm_gR h_1 a0 9 2 fun p_3 =>
    mm_rI E h_1 p_3 0 fun v_4 =>
    mm_wI h_1 p_3 0 (v_4 + 1) fun h_5 =>
    some (.inl none, h_5)) (
  mm_cV [] (cl 236 [.ref a0] h_1) fun h_6 =>
    mm_gR h_6 a0 9 2 fun p_7 =>
    mm_cI [] (cl 239 [.ref a0, .int 20] h_6) fun v_9 h_8 =>
    mm_wI h_8 p_7 (x3 + 5) v_9 fun h_10 =>
    mm_gR h_10 a0 9 2 fun p_11 =>
    mm_rI E h_10 p_11 0 fun v_12 =>
    mm_wI h_10 p_11 0 (v_12 + 1) fun h_13 =>
    some (.inl none, h_13))) := rfl
-- Mod.readSupply
set_option maxRecDepth 20000 in
set_option maxHeartbeats 4000000 in
theorem mm_e246_0 (E : mm_E) (cl : mm_F) (n : Nat) (a0 : Nat) (h : mm_H) :
  mm_run E cl mm_m246 (n + 1) 0 [some (.ref a0), none, none] [] h =
  mm_cV [] (cl 236 [.ref a0] h) fun h_1 =>
  mm_cI [] (cl 244 [.ref a0] h_1) fun v_3 h_2 =>
  mm_cV [] (cl 236 [.ref a0] h_2) fun h_4 =>
  mm_cI [] (cl 244 [.ref a0] h_4) fun v_6 h_5 =>
  mm_gI h_5 a0 9 32 fun v_7 =>
  (mm_br (v_7 = 0) (
  mm_gR h_5 a0 9 2 fun p_12 =>
    mm_cI [] (cl 161 [.ref p_12, .int v_3] h_5) fun v_14 h_13 =>
    mm_cI [] (cl 159 [.int v_14, .int v_6] h_13) fun v_16 h_15 =>
    (mm_br (v_16 = 0) (
    mm_cV [] (cl 236 [.ref a0] h_15) fun h_17 =>
      mm_gI h_17 a0 9 32 fun v_18 =>
      (mm_br (v_18 = 0) (
      mm_gR h_17 a0 9 2 fun p_19 =>
        mm_cV [] (cl 154 [.ref p_19, .int v_3, .int v_6] h_17) fun h_20 =>
        some (.inl none, h_20)) (
      some (.inl none, h_17)))) (
    mm_cV [] (cl 233 [.ref a0, .int 4] h_15) fun h_21 =>
      mm_cV [] (cl 236 [.ref a0] h_21) fun h_22 =>
      mm_gI h_22 a0 9 32 fun v_23 =>
      (mm_br (v_23 = 0) (
      mm_gR h_22 a0 9 2 fun p_24 =>
        mm_cV [] (cl 154 [.ref p_24, .int v_3, .int v_6] h_22) fun h_25 =>
        some (.inl none, h_25)) (
      some (.inl none, h_22)))))) (
  mm_cV [] (cl 236 [.ref a0] h_5) fun h_8 =>
    mm_gI h_8 a0 9 32 fun v_9 =>
    (mm_br (v_9 = 0) (
    mm_gR h_8 a0 9 2 fun p_10 =>
      mm_cV [] (cl 154 [.ref p_10, .int v_3, .int v_6] h_8) fun h_11 =>
      some (.inl none, h_11)) (
    some (.inl none, h_8))))) := rfl
-- Mod.readLine
set_option maxRecDepth 20000 in
set_option maxHeartbeats 4000000 in
theorem mm_e247_0 (E : mm_E) (cl : mm_F) (n : Nat) (a0 : Nat) (h : mm_H) :
  mm_run E cl mm_m247 (n + 1) 0 [some (.ref a0)] [] h =
  mm_cI [] (cl 235 [.ref a0, .ref (E.2.2.1 25)] h) fun v_2 h_1 =>
  (mm_br (v_2 = 0) (
  mm_cI [] (cl 235 [.ref a0, .ref (E.2.2.1 29)] h_1) fun v_4 h_3 =>
    (mm_br (v_4 = 0) (
    mm_cI [] (cl 235 [.ref a0, .ref (E.2.2.1 30)] h_3) fun v_6 h_5 =>
      (mm_br (v_6 = 0) (
      mm_cV [] (cl 233 [.ref a0, .int 1] h_5) fun h_7 =>
        mm_cV [] (cl 237 [.ref a0, .int 59] h_7) fun h_8 =>
        some (.inl none, h_8)) (
      mm_cV [] (cl 236 [.ref a0] h_5) fun h_9 =>
        mm_gR h_9 a0 9 2 fun p_10 =>
        mm_cI [] (cl 239 [.ref a0, .int 400] h_9) fun v_12 h_11 =>
        mm_wI h_11 p_10 1 v_12 fun h_13 =>
        mm_cV [] (cl 237 [.ref a0, .int 59] h_13) fun h_14 =>
        some (.inl none, h_14)))) (
    mm_cV [] (cl 246 [.ref a0] h_3) fun h_15 =>
      mm_cV [] (cl 237 [.ref a0, .int 59] h_15) fun h_16 =>
      some (.inl none, h_16)))) (
  mm_cV [] (cl 245 [.ref a0] h_1) fun h_17 =>
    mm_cV [] (cl 237 [.ref a0, .int 59] h_17) fun h_18 =>
    some (.inl none, h_18))) := rfl
-- Mod.network
set_option maxRecDepth 20000 in
set_option maxHeartbeats 4000000 in
theorem mm_e248_0 (E : mm_E) (cl : mm_F) (n : Nat) (a0 : Nat) (x1 : Int32) (h : mm_H) :
  mm_run E cl mm_m248 (n + 1) 0 [some (.ref a0), some (.int x1), none, none] [] h =
  mm_pF h a0 9 0 (.int 0) fun h_1 =>
  (mm_br (x1 < 0) (
  mm_cI [] (cl 146 [.ref a0, .int 1] h_1) fun v_3 h_2 =>
    some (.inl (some (.int v_3)), h_2)) (
  mm_gI h_1 a0 9 26 fun v_4 =>
    (mm_br (x1 ≤ v_4) (
    mm_gR h_1 a0 9 2 fun p_5 =>
      mm_cV [] (cl 149 [.ref p_5] h_1) fun h_6 =>
      mm_cV [] (cl 238 [.ref a0, .int x1] h_6) fun h_7 =>
      mm_run E cl mm_m248 n 35 [some (.ref a0), some (.int x1), none, none] [] h_7) (
    mm_cI [] (cl 146 [.ref a0, .int 1] h_1) fun v_9 h_8 =>
      some (.inl (some (.int v_9)), h_8))))) := rfl
-- Mod.network
set_option maxRecDepth 20000 in
set_option maxHeartbeats 4000000 in
theorem mm_e248_35 (E : mm_E) (cl : mm_F) (n : Nat) (a0 : Nat) (x1 : Int32) (o2 : Option Value) (o3 : Option Value) (h : mm_H) :
  mm_run E cl mm_m248 (n + 1) 35 [some (.ref a0), some (.int x1), o2, o3] [] h =
  mm_gI h a0 9 32 fun v_1 =>
  (mm_br (v_1 = 0) (
  mm_gI h a0 9 29 fun v_8 =>
    (mm_br (v_8 = 0) (
    mm_cI [] (cl 240 [.ref a0] h) fun v_10 h_9 =>
      (mm_br (v_10 = 0) (
      mm_gR h_9 a0 9 1 fun p_11 =>
        mm_gR h_9 a0 9 2 fun p_12 =>
        mm_cV [] (cl 225 [.ref p_11, .ref p_12] h_9) fun h_13 =>
        mm_pF h_13 a0 9 4 (.int 0) fun h_14 =>
        mm_run E cl mm_m248 n 88 [some (.ref a0), some (.int x1), some (.int v_10), some (.int 0)] [] h_14) (
      some (.inl (some (.int ((-10) - v_10))), h_9)))) (
    mm_cV [] (cl 247 [.ref a0] h) fun h_15 =>
      mm_run E cl mm_m248 n 35 [some (.ref a0), some (.int x1), o2, o3] [] h_15))) (
  mm_cI [] (cl 240 [.ref a0] h) fun v_3 h_2 =>
    (mm_br (v_3 = 0) (
    mm_gR h_2 a0 9 1 fun p_4 =>
      mm_gR h_2 a0 9 2 fun p_5 =>
      mm_cV [] (cl 225 [.ref p_4, .ref p_5] h_2) fun h_6 =>
      mm_pF h_6 a0 9 4 (.int 0) fun h_7 =>
      mm_run E cl mm_m248 n 88 [some (.ref a0), some (.int x1), some (.int v_3), some (.int 0)] [] h_7) (
    some (.inl (some (.int ((-10) - v_3))), h_2))))) := rfl
-- Mod.network
set_option maxRecDepth 20000 in
set_option maxHeartbeats 4000000 in
theorem mm_e248_88 (E : mm_E) (cl : mm_F) (n : Nat) (a0 : Nat) (x1 : Int32) (x2 : Int32) (x3 : Int32) (h : mm_H) :
  mm_run E cl mm_m248 (n + 1) 88 [some (.ref a0), some (.int x1), some (.int x2), some (.int x3)] [] h =
  (mm_br (12 ≤ x3) (
  mm_cI [] (cl 150 [.ref a0] h) fun v_2 h_1 =>
    some (.inl (some (.int v_2)), h_1)) (
  mm_cV [] (cl 177 [.ref a0, .int x3] h) fun h_3 =>
    mm_run E cl mm_m248 n 88 [some (.ref a0), some (.int x1), some (.int x2), some (.int (x3 + 1))] [] h_3)) := rfl
-- Mod.toldOf
set_option maxRecDepth 20000 in
set_option maxHeartbeats 4000000 in
theorem mm_e249_0 (E : mm_E) (cl : mm_F) (n : Nat) (a0 : Nat) (h : mm_H) :
  mm_run E cl mm_m249 (n + 1) 0 [some (.ref a0)] [] h =
  mm_cI [] (cl 235 [.ref a0, .ref (E.2.2.1 37)] h) fun v_2 h_1 =>
  (mm_br (v_2 = 0) (
  mm_cI [] (cl 235 [.ref a0, .ref (E.2.2.1 38)] h_1) fun v_4 h_3 =>
    (mm_br (v_4 = 0) (
    mm_cI [] (cl 235 [.ref a0, .ref (E.2.2.1 39)] h_3) fun v_6 h_5 =>
      (mm_br (v_6 = 0) (
      mm_cI [] (cl 235 [.ref a0, .ref (E.2.2.1 26)] h_5) fun v_8 h_7 =>
        (mm_br (v_8 = 0) (
        mm_cI [] (cl 235 [.ref a0, .ref (E.2.2.1 40)] h_7) fun v_10 h_9 =>
          (mm_br (v_10 = 0) (
          mm_cI [] (cl 235 [.ref a0, .ref (E.2.2.1 41)] h_9) fun v_12 h_11 =>
            (mm_br (v_12 = 0) (
            mm_cI [] (cl 235 [.ref a0, .ref (E.2.2.1 28)] h_11) fun v_14 h_13 =>
              (mm_br (v_14 = 0) (
              mm_cI [] (cl 235 [.ref a0, .ref (E.2.2.1 42)] h_13) fun v_16 h_15 =>
                (mm_br (v_16 = 0) (
                mm_cI [] (cl 250 [.ref a0] h_15) fun v_18 h_17 =>
                  some (.inl (some (.int v_18)), h_17)) (
                mm_gI h_15 a0 9 36 fun v_19 =>
                  mm_cI [] (cl 152 [.ref a0, .int v_19, .int 6] h_15) fun v_21 h_20 =>
                  some (.inl (some (.int v_21)), h_20)))) (
              mm_gI h_13 a0 9 36 fun v_22 =>
                mm_cI [] (cl 152 [.ref a0, .int v_22, .int 5] h_13) fun v_24 h_23 =>
                some (.inl (some (.int v_24)), h_23)))) (
            mm_gI h_11 a0 9 36 fun v_25 =>
              mm_cI [] (cl 152 [.ref a0, .int v_25, .int 4] h_11) fun v_27 h_26 =>
              some (.inl (some (.int v_27)), h_26)))) (
          mm_gI h_9 a0 9 36 fun v_28 =>
            mm_cI [] (cl 152 [.ref a0, .int v_28, .int 3] h_9) fun v_30 h_29 =>
            some (.inl (some (.int v_30)), h_29)))) (
        mm_gI h_7 a0 9 36 fun v_31 =>
          mm_cI [] (cl 152 [.ref a0, .int v_31, .int 2] h_7) fun v_33 h_32 =>
          some (.inl (some (.int v_33)), h_32)))) (
      mm_gI h_5 a0 9 36 fun v_34 =>
        mm_cI [] (cl 152 [.ref a0, .int v_34, .int 1] h_5) fun v_36 h_35 =>
        some (.inl (some (.int v_36)), h_35)))) (
    mm_gI h_3 a0 9 36 fun v_37 =>
      mm_cI [] (cl 152 [.ref a0, .int v_37, .int 0] h_3) fun v_39 h_38 =>
      some (.inl (some (.int v_39)), h_38)))) (
  mm_gI h_1 a0 9 36 fun v_40 =>
    some (.inl (some (.int v_40)), h_1))) := rfl
-- Mod.madeOf
set_option maxRecDepth 20000 in
set_option maxHeartbeats 4000000 in
theorem mm_e250_0 (E : mm_E) (cl : mm_F) (n : Nat) (a0 : Nat) (h : mm_H) :
  mm_run E cl mm_m250 (n + 1) 0 [some (.ref a0)] [] h =
  mm_cI [] (cl 235 [.ref a0, .ref (E.2.2.1 43)] h) fun v_2 h_1 =>
  (mm_br (v_2 = 0) (
  mm_cI [] (cl 235 [.ref a0, .ref (E.2.2.1 44)] h_1) fun v_4 h_3 =>
    (mm_br (v_4 = 0) (
    mm_cI [] (cl 235 [.ref a0, .ref (E.2.2.1 45)] h_3) fun v_6 h_5 =>
      (mm_br (v_6 = 0) (
      mm_cI [] (cl 235 [.ref a0, .ref (E.2.2.1 46)] h_5) fun v_8 h_7 =>
        (mm_br (v_8 = 0) (
        mm_cI [] (cl 235 [.ref a0, .ref (E.2.2.1 47)] h_7) fun v_10 h_9 =>
          (mm_br (v_10 = 0) (
          mm_cI [] (cl 251 [.ref a0] h_9) fun v_12 h_11 =>
            some (.inl (some (.int v_12)), h_11)) (
          mm_gI h_9 a0 9 36 fun v_13 =>
            mm_cI [] (cl 158 [.ref a0, .int v_13] h_9) fun v_15 h_14 =>
            mm_cI [] (cl 160 [.int v_15] h_14) fun v_17 h_16 =>
            some (.inl (some (.int v_17)), h_16)))) (
        mm_gI h_7 a0 9 36 fun v_18 =>
          mm_cI [] (cl 157 [.ref a0, .int v_18] h_7) fun v_20 h_19 =>
          mm_cI [] (cl 160 [.int v_20] h_19) fun v_22 h_21 =>
          some (.inl (some (.int v_22)), h_21)))) (
      mm_gI h_5 a0 9 36 fun v_23 =>
        mm_cI [] (cl 163 [.ref a0, .int v_23] h_5) fun v_25 h_24 =>
        some (.inl (some (.int v_25)), h_24)))) (
    mm_gI h_3 a0 9 36 fun v_26 =>
      mm_cI [] (cl 162 [.ref a0, .int v_26, .int 4] h_3) fun v_28 h_27 =>
      some (.inl (some (.int v_28)), h_27)))) (
  mm_gI h_1 a0 9 36 fun v_29 =>
    mm_cI [] (cl 162 [.ref a0, .int v_29, .int 3] h_1) fun v_31 h_30 =>
    some (.inl (some (.int v_31)), h_30))) := rfl
-- Mod.plannedOf
set_option maxRecDepth 20000 in
set_option maxHeartbeats 4000000 in
theorem mm_e251_0 (E : mm_E) (cl : mm_F) (n : Nat) (a0 : Nat) (h : mm_H) :
  mm_run E cl mm_m251 (n + 1) 0 [some (.ref a0), none, none, none] [] h =
  mm_cI [] (cl 235 [.ref a0, .ref (E.2.2.1 48)] h) fun v_2 h_1 =>
  (mm_br (v_2 = 0) (
  mm_cI [] (cl 235 [.ref a0, .ref (E.2.2.1 49)] h_1) fun v_4 h_3 =>
    (mm_br (v_4 = 0) (
    mm_cI [] (cl 235 [.ref a0, .ref (E.2.2.1 50)] h_3) fun v_6 h_5 =>
      mm_cI [] (cl 235 [.ref a0, .ref (E.2.2.1 51)] h_5) fun v_8 h_7 =>
      mm_cI [] (cl 235 [.ref a0, .ref (E.2.2.1 52)] h_7) fun v_10 h_9 =>
      (mm_br (v_6 = 0) (
      (mm_br (v_8 = 0) (
        (mm_br (v_10 = 0) (
          mm_cI [] (cl 235 [.ref a0, .ref (E.2.2.1 53)] h_9) fun v_12 h_11 =>
            (mm_br (v_12 = 0) (
            mm_cV [] (cl 233 [.ref a0, .int 1] h_11) fun h_13 =>
              mm_run E cl mm_m251 n 99 [some (.ref a0), some (.int v_6), some (.int v_8), some (.int v_10)] [] h_13) (
            mm_run E cl mm_m251 n 99 [some (.ref a0), some (.int v_6), some (.int v_8), some (.int v_10)] [] h_11))) (
          mm_run E cl mm_m251 n 99 [some (.ref a0), some (.int v_6), some (.int v_8), some (.int v_10)] [] h_9))) (
        mm_run E cl mm_m251 n 99 [some (.ref a0), some (.int v_6), some (.int v_8), some (.int v_10)] [] h_9))) (
      mm_gI h_9 a0 9 36 fun v_14 =>
        mm_cI [] (cl 180 [.ref a0, .int v_14] h_9) fun v_16 h_15 =>
        some (.inl (some (.int v_16)), h_15)))) (
    mm_gI h_3 a0 9 36 fun v_17 =>
      mm_cI [] (cl 179 [.ref a0, .int v_17] h_3) fun v_19 h_18 =>
      some (.inl (some (.int v_19)), h_18)))) (
  mm_gR h_1 a0 9 5 fun p_20 =>
    mm_gI h_1 a0 9 36 fun v_21 =>
    mm_rI E h_1 p_20 v_21 fun v_22 =>
    some (.inl (some (.int v_22)), h_1))) := rfl
