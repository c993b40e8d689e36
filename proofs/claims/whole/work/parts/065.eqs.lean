/-! EQUATIONS of the runs, part 3 (by program: wip/whole/genpure.py) -/
-- Tok.isSign
noncomputable def mm_r96_0 (E : mm_E) (cl : mm_F) (n : Nat) (a0 : Nat) (x1 : Int32) (h : mm_H) : mm_R := mm_run E cl mm_m96 n 0 [some (.ref a0), some (.int x1)] [] h
set_option maxRecDepth 20000 in
set_option maxHeartbeats 4000000 in
theorem mm_e96_0 (E : mm_E) (cl : mm_F) (n : Nat) (a0 : Nat) (x1 : Int32) (h : mm_H) :
  mm_r96_0 E cl (n + 1) a0 x1 h =
  mm_gI h a0 7 5 fun v_1 =>
  (mm_br (v_1 = (mm_i 3)) (
  mm_gR h a0 7 0 fun p_2 =>
    mm_gI h a0 7 3 fun v_3 =>
    mm_rI E h p_2 v_3 fun v_4 =>
    (mm_br (v_4 = x1) (
    (mm_bz (mm_i 1) (some (.inl (some (.int (mm_i 1))), h)))) (
    (mm_bz (mm_i 0) (some (.inl (some (.int (mm_i 0))), h)))))) (
  (mm_bz (mm_i 0) (some (.inl (some (.int (mm_i 0))), h))))) := (rfl)
-- Tok.skipWord
noncomputable def mm_r97_0 (E : mm_E) (cl : mm_F) (n : Nat) (a0 : Nat) (a1 : Nat) (h : mm_H) : mm_R := mm_run E cl mm_m97 n 0 [some (.ref a0), some (.ref a1), none] [] h
set_option maxRecDepth 20000 in
set_option maxHeartbeats 4000000 in
theorem mm_e97_0 (E : mm_E) (cl : mm_F) (n : Nat) (a0 : Nat) (a1 : Nat) (h : mm_H) :
  mm_r97_0 E cl (n + 1) a0 a1 h =
  mm_cI [] (cl 98 [.ref a0, .ref a1] h) fun v_2 h_1 =>
  (mm_br (v_2 = (mm_i 0)) (
  (mm_br ((mm_i 1) = (mm_i 0)) (
    (mm_bz (mm_i 1) (some (.inl (some (.int (mm_i 1))), h_1)))) (
    mm_cV [] (cl 95 [.ref a0] h_1) fun h_4 =>
      (mm_bz (mm_i 1) (some (.inl (some (.int (mm_i 1))), h_4)))))) (
  (mm_br ((mm_i 0) = (mm_i 0)) (
    (mm_bz (mm_i 0) (some (.inl (some (.int (mm_i 0))), h_1)))) (
    mm_cV [] (cl 95 [.ref a0] h_1) fun h_3 =>
      (mm_bz (mm_i 0) (some (.inl (some (.int (mm_i 0))), h_3))))))) := (rfl)
-- Tok.among
noncomputable def mm_r98_0 (E : mm_E) (cl : mm_F) (n : Nat) (a0 : Nat) (a1 : Nat) (h : mm_H) : mm_R := mm_run E cl mm_m98 n 0 [some (.ref a0), some (.ref a1), none, none, none, none] [] h
noncomputable def mm_r98_23 (E : mm_E) (cl : mm_F) (n : Nat) (a0 : Nat) (a1 : Nat) (x2 : Int32) (x3 : Int32) (x4 : Int32) (x5 : Int32) (h : mm_H) : mm_R := mm_run E cl mm_m98 n 23 [some (.ref a0), some (.ref a1), some (.int x2), some (.int x3), some (.int x4), some (.int x5)] [] h
noncomputable def mm_r98_56 (E : mm_E) (cl : mm_F) (n : Nat) (a0 : Nat) (a1 : Nat) (x2 : Int32) (x3 : Int32) (x4 : Int32) (x5 : Int32) (h : mm_H) : mm_R := mm_run E cl mm_m98 n 56 [some (.ref a0), some (.ref a1), some (.int x2), some (.int x3), some (.int x4), some (.int x5)] [] h
noncomputable def mm_r98_102 (E : mm_E) (cl : mm_F) (n : Nat) (a0 : Nat) (a1 : Nat) (x2 : Int32) (x3 : Int32) (x4 : Int32) (x5 : Int32) (h : mm_H) : mm_R := mm_run E cl mm_m98 n 102 [some (.ref a0), some (.ref a1), some (.int x2), some (.int x3), some (.int x4), some (.int x5)] [] h
set_option maxRecDepth 20000 in
set_option maxHeartbeats 4000000 in
theorem mm_e98_0 (E : mm_E) (cl : mm_F) (n : Nat) (a0 : Nat) (a1 : Nat) (h : mm_H) :
  mm_r98_0 E cl (n + 1) a0 a1 h =
  mm_gI h a0 7 5 fun v_1 =>
  (mm_br (v_1 = (mm_i 1)) (
  mm_gI h a0 7 3 fun v_2 =>
    mm_r98_23 E cl n a0 a1 (mm_i 0) v_2 (mm_i 1) (mm_i 0) h) (
  some (.inl (some (.int (mm_i (-1)))), h))) := (rfl)
set_option maxRecDepth 20000 in
set_option maxHeartbeats 4000000 in
theorem mm_e98_23 (E : mm_E) (cl : mm_F) (n : Nat) (a0 : Nat) (a1 : Nat) (x2 : Int32) (x3 : Int32) (x4 : Int32) (x5 : Int32) (h : mm_H) :
  mm_r98_23 E cl (n + 1) a0 a1 x2 x3 x4 x5 h =
  mm_sl E a1 fun v_1 =>
  (mm_br (v_1 ≤ x5) (
  some (.inl (some (.int (mm_i (-1)))), h)) (
  mm_sa E a1 x5 fun v_2 =>
    (mm_br (v_2 = (mm_i 32)) (
    (mm_br (x4 = (mm_i 0)) (
      mm_r98_102 E cl n a0 a1 (x2 + (mm_i 1)) x3 x4 x5 h) (
      mm_gI h a0 7 4 fun v_3 =>
        (mm_br (x3 = v_3) (
        some (.inl (some (.int x2)), h)) (
        mm_r98_102 E cl n a0 a1 (x2 + (mm_i 1)) x3 x4 x5 h))))) (
    (mm_br (x4 = (mm_i 0)) (
      mm_r98_23 E cl n a0 a1 x2 (x3 + (mm_i 1)) (mm_i 0) (x5 + (mm_i 1)) h) (
      mm_gI h a0 7 4 fun v_4 =>
        (mm_br (v_4 ≤ x3) (
        mm_r98_23 E cl n a0 a1 x2 (x3 + (mm_i 1)) (mm_i 0) (x5 + (mm_i 1)) h) (
        mm_r98_56 E cl n a0 a1 x2 x3 x4 x5 h)))))))) := (rfl)
set_option maxRecDepth 20000 in
set_option maxHeartbeats 4000000 in
theorem mm_e98_56 (E : mm_E) (cl : mm_F) (n : Nat) (a0 : Nat) (a1 : Nat) (x2 : Int32) (x3 : Int32) (x4 : Int32) (x5 : Int32) (h : mm_H) :
  mm_r98_56 E cl (n + 1) a0 a1 x2 x3 x4 x5 h =
  mm_gR h a0 7 0 fun p_1 =>
  mm_rI E h p_1 x3 fun v_2 =>
  mm_sa E a1 x5 fun v_3 =>
  (mm_br (v_2 = v_3) (
  mm_r98_23 E cl n a0 a1 x2 (x3 + (mm_i 1)) (mm_i 1) (x5 + (mm_i 1)) h) (
  mm_r98_23 E cl n a0 a1 x2 (x3 + (mm_i 1)) (mm_i 0) (x5 + (mm_i 1)) h)) := (rfl)
set_option maxRecDepth 20000 in
set_option maxHeartbeats 4000000 in
theorem mm_e98_102 (E : mm_E) (cl : mm_F) (n : Nat) (a0 : Nat) (a1 : Nat) (x2 : Int32) (x3 : Int32) (x4 : Int32) (x5 : Int32) (h : mm_H) :
  mm_r98_102 E cl (n + 1) a0 a1 x2 x3 x4 x5 h =
  mm_gI h a0 7 3 fun v_1 =>
  mm_r98_23 E cl n a0 a1 x2 v_1 (mm_i 1) (x5 + (mm_i 1)) h := (rfl)
-- Tok.number
noncomputable def mm_r99_0 (E : mm_E) (cl : mm_F) (n : Nat) (a0 : Nat) (h : mm_H) : mm_R := mm_run E cl mm_m99 n 0 [some (.ref a0), none, none] [] h
noncomputable def mm_r99_7 (E : mm_E) (cl : mm_F) (n : Nat) (a0 : Nat) (x1 : Int32) (x2 : Int32) (h : mm_H) : mm_R := mm_run E cl mm_m99 n 7 [some (.ref a0), some (.int x1), some (.int x2)] [] h
set_option maxRecDepth 20000 in
set_option maxHeartbeats 4000000 in
theorem mm_e99_0 (E : mm_E) (cl : mm_F) (n : Nat) (a0 : Nat) (h : mm_H) :
  mm_r99_0 E cl (n + 1) a0 h =
  mm_gI h a0 7 3 fun v_1 =>
  mm_r99_7 E cl n a0 (mm_i 0) v_1 h := (rfl)
set_option maxRecDepth 20000 in
set_option maxHeartbeats 4000000 in
theorem mm_e99_7 (E : mm_E) (cl : mm_F) (n : Nat) (a0 : Nat) (x1 : Int32) (x2 : Int32) (h : mm_H) :
  mm_r99_7 E cl (n + 1) a0 x1 x2 h =
  mm_gI h a0 7 4 fun v_1 =>
  (mm_br (v_1 ≤ x2) (
  some (.inl (some (.int x1)), h)) (
  mm_gR h a0 7 0 fun p_2 =>
    mm_rI E h p_2 x2 fun v_3 =>
    mm_r99_7 E cl n a0 (mm_mn (((x1 * (mm_i 10)) + v_3) - (mm_i 48)) (mm_i 1000000)) (x2 + (mm_i 1)) h)) := (rfl)
-- Tok.kindOf
noncomputable def mm_r100_0 (E : mm_E) (cl : mm_F) (n : Nat) (x0 : Int32) (h : mm_H) : mm_R := mm_run E cl mm_m100 n 0 [some (.int x0)] [] h
set_option maxRecDepth 20000 in
set_option maxHeartbeats 4000000 in
theorem mm_e100_0 (E : mm_E) (cl : mm_F) (n : Nat) (x0 : Int32) (h : mm_H) :
  mm_r100_0 E cl (n + 1) x0 h =
  (mm_br (x0 < (mm_i 97)) (
  (mm_br (x0 < (mm_i 48)) (
    some (.inl (some (.int (mm_i 3))), h)) (
    (mm_br ((mm_i 57) < x0) (
      some (.inl (some (.int (mm_i 3))), h)) (
      some (.inl (some (.int (mm_i 2))), h)))))) (
  (mm_br ((mm_i 122) < x0) (
    (mm_br (x0 < (mm_i 48)) (
      some (.inl (some (.int (mm_i 3))), h)) (
      (mm_br ((mm_i 57) < x0) (
        some (.inl (some (.int (mm_i 3))), h)) (
        some (.inl (some (.int (mm_i 2))), h)))))) (
    some (.inl (some (.int (mm_i 1))), h))))) := (rfl)
-- PS.init
noncomputable def mm_r101_0 (E : mm_E) (cl : mm_F) (n : Nat) (a0 : Nat) (h : mm_H) : mm_R := mm_run E cl mm_m101 n 0 [some (.ref a0)] [] h
noncomputable def mm_r101_48 (E : mm_E) (cl : mm_F) (n : Nat) (a0 : Nat) (h : mm_H) : mm_R := mm_run E cl mm_m101 n 48 [some (.ref a0)] [] h
noncomputable def mm_r101_81 (E : mm_E) (cl : mm_F) (n : Nat) (a0 : Nat) (h : mm_H) : mm_R := mm_run E cl mm_m101 n 81 [some (.ref a0)] [] h
noncomputable def mm_r101_127 (E : mm_E) (cl : mm_F) (n : Nat) (a0 : Nat) (h : mm_H) : mm_R := mm_run E cl mm_m101 n 127 [some (.ref a0)] [] h
set_option maxRecDepth 20000 in
set_option maxHeartbeats 4000000 in
theorem mm_e101_0 (E : mm_E) (cl : mm_F) (n : Nat) (a0 : Nat) (h : mm_H) :
  mm_r101_0 E cl (n + 1) a0 h =
  mm_al h (.inl (7, mm_new.getD 7 [])) (mm_new.getD 7 []).length fun p_1 h_2 =>
  mm_cV [] (cl 92 [.ref p_1] h_2) fun h_3 =>
  mm_pF h_3 a0 8 0 (.ref p_1) fun h_4 =>
  mm_al h_4 (.inl (3, mm_new.getD 3 [])) (mm_new.getD 3 []).length fun p_5 h_6 =>
  mm_cV [] (cl 29 [.ref p_5] h_6) fun h_7 =>
  mm_pF h_7 a0 8 1 (.ref p_5) fun h_8 =>
  mm_al h_8 (.inl (3, mm_new.getD 3 [])) (mm_new.getD 3 []).length fun p_9 h_10 =>
  mm_cV [] (cl 29 [.ref p_9] h_10) fun h_11 =>
  mm_pF h_11 a0 8 2 (.ref p_9) fun h_12 =>
  mm_al h_12 (.inl (3, mm_new.getD 3 [])) (mm_new.getD 3 []).length fun p_13 h_14 =>
  mm_cV [] (cl 29 [.ref p_13] h_14) fun h_15 =>
  mm_pF h_15 a0 8 3 (.ref p_13) fun h_16 =>
  mm_r101_48 E cl n a0 h_16 := (rfl)
set_option maxRecDepth 20000 in
set_option maxHeartbeats 4000000 in
theorem mm_e101_48 (E : mm_E) (cl : mm_F) (n : Nat) (a0 : Nat) (h : mm_H) :
  mm_r101_48 E cl (n + 1) a0 h =
  mm_al h (.inl (0, mm_new.getD 0 [])) (mm_new.getD 0 []).length fun p_1 h_2 =>
  mm_cV [] (cl 0 [.ref p_1] h_2) fun h_3 =>
  mm_pF h_3 a0 8 4 (.ref p_1) fun h_4 =>
  mm_al h_4 (.inl (1, mm_new.getD 1 [])) (mm_new.getD 1 []).length fun p_5 h_6 =>
  mm_cV [] (cl 4 [.ref p_5] h_6) fun h_7 =>
  mm_pF h_7 a0 8 5 (.ref p_5) fun h_8 =>
  mm_al h_8 (.inl (2, mm_new.getD 2 [])) (mm_new.getD 2 []).length fun p_9 h_10 =>
  mm_cV [] (cl 19 [.ref p_9] h_10) fun h_11 =>
  mm_pF h_11 a0 8 6 (.ref p_9) fun h_12 =>
  mm_r101_81 E cl n a0 h_12 := (rfl)
set_option maxRecDepth 20000 in
set_option maxHeartbeats 4000000 in
theorem mm_e101_81 (E : mm_E) (cl : mm_F) (n : Nat) (a0 : Nat) (h : mm_H) :
  mm_r101_81 E cl (n + 1) a0 h =
  mm_al h (.inl (6, mm_new.getD 6 [])) (mm_new.getD 6 []).length fun p_1 h_2 =>
  mm_gR h_2 a0 8 0 fun p_3 =>
  mm_gR h_2 a0 8 2 fun p_4 =>
  mm_cV [] (cl 78 [.ref p_1, .ref p_3, .ref p_4] h_2) fun h_5 =>
  mm_pF h_5 a0 8 7 (.ref p_1) fun h_6 =>
  mm_al h_6 (.inl (4, mm_new.getD 4 [])) (mm_new.getD 4 []).length fun p_7 h_8 =>
  mm_gR h_8 a0 8 0 fun p_9 =>
  mm_gR h_8 a0 8 1 fun p_10 =>
  mm_cV [] (cl 62 [.ref p_7, .ref p_9, .ref p_10] h_8) fun h_11 =>
  mm_pF h_11 a0 8 8 (.ref p_7) fun h_12 =>
  mm_nn (mm_i 21) fun k_15 => mm_al h_12 (.inr (.inl (k_15, fun _ => 0))) k_15 fun p_13 h_14 =>
  mm_pF h_14 a0 8 9 (.ref p_13) fun h_16 =>
  mm_r101_127 E cl n a0 h_16 := (rfl)
set_option maxRecDepth 20000 in
set_option maxHeartbeats 4000000 in
theorem mm_e101_127 (E : mm_E) (cl : mm_F) (n : Nat) (a0 : Nat) (h : mm_H) :
  mm_r101_127 E cl (n + 1) a0 h =
  mm_pF h a0 8 10 (.int (mm_i 0)) fun h_1 =>
  mm_pF h_1 a0 8 11 (.int (mm_i 0)) fun h_2 =>
  (mm_bz (mm_i 0) (
  mm_pF h_2 a0 8 12 (.int (mm_i 0)) fun h_3 =>
  mm_pF h_3 a0 8 13 (.int (mm_i (-1))) fun h_4 =>
  some (.inl none, h_4))) := (rfl)
-- PS.feed
noncomputable def mm_r102_0 (E : mm_E) (cl : mm_F) (n : Nat) (a0 : Nat) (x1 : Int32) (x2 : Int32) (x3 : Int32) (x4 : Int32) (x5 : Int32) (h : mm_H) : mm_R := mm_run E cl mm_m102 n 0 [some (.ref a0), some (.int x1), some (.int x2), some (.int x3), some (.int x4), some (.int x5)] [] h
noncomputable def mm_r102_42 (E : mm_E) (cl : mm_F) (n : Nat) (a0 : Nat) (x1 : Int32) (x2 : Int32) (x3 : Int32) (x4 : Int32) (x5 : Int32) (h : mm_H) : mm_R := mm_run E cl mm_m102 n 42 [some (.ref a0), some (.int x1), some (.int x2), some (.int x3), some (.int x4), some (.int x5)] [] h
set_option maxRecDepth 20000 in
set_option maxHeartbeats 4000000 in
theorem mm_e102_0 (E : mm_E) (cl : mm_F) (n : Nat) (a0 : Nat) (x1 : Int32) (x2 : Int32) (x3 : Int32) (x4 : Int32) (x5 : Int32) (h : mm_H) :
  mm_r102_0 E cl (n + 1) a0 x1 x2 x3 x4 x5 h =
  mm_gR h a0 8 0 fun p_1 =>
  mm_gI h p_1 7 1 fun v_2 =>
  (mm_br ((v_2 + (mm_i 20)) ≤ (mm_i 400)) (
  mm_gR h a0 8 0 fun p_3 =>
    mm_cV [] (cl 93 [.ref p_3, .int x1] h) fun h_4 =>
    mm_gR h_4 a0 8 0 fun p_5 =>
    mm_cV [] (cl 93 [.ref p_5, .int x2] h_4) fun h_6 =>
    mm_gR h_6 a0 8 0 fun p_7 =>
    mm_cV [] (cl 93 [.ref p_7, .int x3] h_6) fun h_8 =>
    mm_r102_42 E cl n a0 x1 x2 x3 x4 x5 h_8) (
  some (.inl (some (.int (mm_i (-1)))), h))) := (rfl)
set_option maxRecDepth 20000 in
set_option maxHeartbeats 4000000 in
theorem mm_e102_42 (E : mm_E) (cl : mm_F) (n : Nat) (a0 : Nat) (x1 : Int32) (x2 : Int32) (x3 : Int32) (x4 : Int32) (x5 : Int32) (h : mm_H) :
  mm_r102_42 E cl (n + 1) a0 x1 x2 x3 x4 x5 h =
  mm_gR h a0 8 0 fun p_1 =>
  mm_cV [] (cl 93 [.ref p_1, .int x4] h) fun h_2 =>
  mm_gR h_2 a0 8 0 fun p_3 =>
  mm_cV [] (cl 93 [.ref p_3, .int x5] h_2) fun h_4 =>
  mm_gR h_4 a0 8 0 fun p_5 =>
  mm_gI h_4 p_5 7 1 fun v_6 =>
  some (.inl (some (.int v_6)), h_4) := (rfl)
-- PS.network
noncomputable def mm_r103_0 (E : mm_E) (cl : mm_F) (n : Nat) (a0 : Nat) (x1 : Int32) (h : mm_H) : mm_R := mm_run E cl mm_m103 n 0 [some (.ref a0), some (.int x1), none] [] h
noncomputable def mm_r103_59 (E : mm_E) (cl : mm_F) (n : Nat) (a0 : Nat) (x1 : Int32) (x2 : Int32) (h : mm_H) : mm_R := mm_run E cl mm_m103 n 59 [some (.ref a0), some (.int x1), some (.int x2)] [] h
set_option maxRecDepth 20000 in
set_option maxHeartbeats 4000000 in
theorem mm_e103_0 (E : mm_E) (cl : mm_F) (n : Nat) (a0 : Nat) (x1 : Int32) (h : mm_H) :
  mm_r103_0 E cl (n + 1) a0 x1 h =
  (mm_br (x1 < (mm_i 0)) (
  some (.inr 1, (h.1, (none, (h.2.2.1 + 1, h.2.2.2 + 6))))) (
  mm_gR h a0 8 0 fun p_1 =>
    mm_gI h p_1 7 1 fun v_2 =>
    (mm_br (x1 ≤ v_2) (
    mm_gR h a0 8 7 fun p_3 =>
      mm_cI [] (cl 79 [.ref p_3, .int x1] h) fun v_5 h_4 =>
      mm_cV [] (cl 138 [.ref a0, .int v_5] h_4) fun h_6 =>
      (mm_br (v_5 = (mm_i 0)) (
      mm_gR h_6 a0 8 1 fun p_7 =>
        mm_gR h_6 a0 8 2 fun p_8 =>
        mm_cV [] (cl 34 [.ref p_7, .ref p_8] h_6) fun h_9 =>
        mm_r103_59 E cl n a0 x1 v_5 h_9) (
      some (.inl (some (.int ((mm_i (-10)) - v_5))), h_6)))) (
    some (.inr 1, (h.1, (none, (h.2.2.1 + 1, h.2.2.2 + 6)))))))) := (rfl)
set_option maxRecDepth 20000 in
set_option maxHeartbeats 4000000 in
theorem mm_e103_59 (E : mm_E) (cl : mm_F) (n : Nat) (a0 : Nat) (x1 : Int32) (x2 : Int32) (h : mm_H) :
  mm_r103_59 E cl (n + 1) a0 x1 x2 h =
  mm_gR h a0 8 4 fun p_1 =>
  mm_cV [] (cl 3 [.ref p_1] h) fun h_2 =>
  mm_gR h_2 a0 8 1 fun p_3 =>
  mm_gI h_2 p_3 3 10 fun v_4 =>
  some (.inl (some (.int v_4)), h_2) := (rfl)
-- PS.fault
noncomputable def mm_r104_0 (E : mm_E) (cl : mm_F) (n : Nat) (a0 : Nat) (h : mm_H) : mm_R := mm_run E cl mm_m104 n 0 [some (.ref a0)] [] h
set_option maxRecDepth 20000 in
set_option maxHeartbeats 4000000 in
theorem mm_e104_0 (E : mm_E) (cl : mm_F) (n : Nat) (a0 : Nat) (h : mm_H) :
  mm_r104_0 E cl (n + 1) a0 h =
  mm_gI h a0 8 13 fun v_1 =>
  some (.inl (some (.int v_1)), h) := (rfl)
-- PS.count
noncomputable def mm_r105_0 (E : mm_E) (cl : mm_F) (n : Nat) (a0 : Nat) (x1 : Int32) (h : mm_H) : mm_R := mm_run E cl mm_m105 n 0 [some (.ref a0), some (.int x1)] [] h
set_option maxRecDepth 20000 in
set_option maxHeartbeats 4000000 in
theorem mm_e105_0 (E : mm_E) (cl : mm_F) (n : Nat) (a0 : Nat) (x1 : Int32) (h : mm_H) :
  mm_r105_0 E cl (n + 1) a0 x1 h =
  (mm_br (x1 = (mm_i 0)) (
  mm_gR h a0 8 1 fun p_18 =>
    mm_gI h p_18 3 10 fun v_19 =>
    some (.inl (some (.int v_19)), h)) (
  (mm_br (x1 = (mm_i 1)) (
  mm_gR h a0 8 1 fun p_15 =>
    mm_cI [] (cl 41 [.ref p_15] h) fun v_17 h_16 =>
    some (.inl (some (.int v_17)), h_16)) (
  (mm_br (x1 = (mm_i 2)) (
  mm_gR h a0 8 1 fun p_13 =>
    mm_gI h p_13 3 11 fun v_14 =>
    some (.inl (some (.int v_14)), h)) (
  (mm_br (x1 = (mm_i 3)) (
  mm_gR h a0 8 1 fun p_8 =>
    mm_gI h p_8 3 10 fun v_9 =>
    mm_gR h a0 8 1 fun p_10 =>
    mm_cI [] (cl 41 [.ref p_10] h) fun v_12 h_11 =>
    some (.inl (some (.int (v_9 - v_12))), h_11)) (
  (mm_br (x1 = (mm_i 4)) (
  mm_gR h a0 8 1 fun p_5 =>
    mm_cI [] (cl 42 [.ref p_5] h) fun v_7 h_6 =>
    some (.inl (some (.int v_7)), h_6)) (
  (mm_br (x1 = (mm_i 5)) (
  mm_gR h a0 8 4 fun p_3 =>
    mm_gI h p_3 0 3 fun v_4 =>
    some (.inl (some (.int v_4)), h)) (
  (mm_br (x1 = (mm_i 6)) (
  mm_gR h a0 8 0 fun p_1 =>
    mm_gI h p_1 7 1 fun v_2 =>
    some (.inl (some (.int v_2)), h)) (
  some (.inr 0, (h.1, (none, (h.2.2.1 + 1, h.2.2.2 + 6)))))))))))))))))) := (rfl)
-- PS.letter
noncomputable def mm_r106_0 (E : mm_E) (cl : mm_F) (n : Nat) (a0 : Nat) (x1 : Int32) (x2 : Int32) (h : mm_H) : mm_R := mm_run E cl mm_m106 n 0 [some (.ref a0), some (.int x1), some (.int x2)] [] h
set_option maxRecDepth 20000 in
set_option maxHeartbeats 4000000 in
theorem mm_e106_0 (E : mm_E) (cl : mm_F) (n : Nat) (a0 : Nat) (x1 : Int32) (x2 : Int32) (h : mm_H) :
  mm_r106_0 E cl (n + 1) a0 x1 x2 h =
  mm_cV [] (cl 133 [.ref a0, .int x1] h) fun h_1 =>
  (mm_br (x2 < (mm_i 0)) (
  some (.inr 0, (h_1.1, (none, (h_1.2.2.1 + 1, h_1.2.2.2 + 6))))) (
  (mm_br (x2 < (mm_i 6)) (
    mm_gR h_1 a0 8 1 fun p_2 =>
      mm_gR h_1 p_2 3 1 fun p_3 =>
      mm_rI E h_1 p_3 ((x1 * (mm_i 6)) + x2) fun v_4 =>
      some (.inl (some (.int v_4)), h_1)) (
    some (.inr 0, (h_1.1, (none, (h_1.2.2.1 + 1, h_1.2.2.2 + 6)))))))) := (rfl)
-- PS.stage
noncomputable def mm_r107_0 (E : mm_E) (cl : mm_F) (n : Nat) (a0 : Nat) (x1 : Int32) (x2 : Int32) (h : mm_H) : mm_R := mm_run E cl mm_m107 n 0 [some (.ref a0), some (.int x1), some (.int x2)] [] h
set_option maxRecDepth 20000 in
set_option maxHeartbeats 4000000 in
theorem mm_e107_0 (E : mm_E) (cl : mm_F) (n : Nat) (a0 : Nat) (x1 : Int32) (x2 : Int32) (h : mm_H) :
  mm_r107_0 E cl (n + 1) a0 x1 x2 h =
  mm_cV [] (cl 133 [.ref a0, .int x1] h) fun h_1 =>
  mm_cV [] (cl 134 [.int x2, .int (mm_i 12)] h_1) fun h_2 =>
  (mm_br (x2 = (mm_i 7)) (
  mm_gR h_2 a0 8 1 fun p_18 =>
    mm_gR h_2 p_18 3 7 fun p_19 =>
    mm_rI E h_2 p_19 x1 fun v_20 =>
    some (.inl (some (.int v_20)), h_2)) (
  (mm_br (x2 = (mm_i 8)) (
  mm_gR h_2 a0 8 1 fun p_15 =>
    mm_gR h_2 p_15 3 8 fun p_16 =>
    mm_rI E h_2 p_16 x1 fun v_17 =>
    some (.inl (some (.int v_17)), h_2)) (
  (mm_br (x2 = (mm_i 9)) (
  mm_gR h_2 a0 8 1 fun p_12 =>
    mm_gR h_2 p_12 3 9 fun p_13 =>
    mm_rI E h_2 p_13 x1 fun v_14 =>
    some (.inl (some (.int v_14)), h_2)) (
  (mm_br (x2 = (mm_i 10)) (
  mm_gR h_2 a0 8 1 fun p_9 =>
    mm_gR h_2 p_9 3 2 fun p_10 =>
    mm_rI E h_2 p_10 x1 fun v_11 =>
    some (.inl (some (.int v_11)), h_2)) (
  (mm_br (x2 = (mm_i 11)) (
  mm_gR h_2 a0 8 1 fun p_6 =>
    mm_gR h_2 p_6 3 3 fun p_7 =>
    mm_rI E h_2 p_7 x1 fun v_8 =>
    some (.inl (some (.int v_8)), h_2)) (
  mm_gR h_2 a0 8 1 fun p_3 =>
  mm_cI [] (cl 30 [.ref p_3, .int x1, .int x2] h_2) fun v_5 h_4 =>
  some (.inl (some (.int v_5)), h_4))))))))))) := (rfl)
-- PS.bound
noncomputable def mm_r108_0 (E : mm_E) (cl : mm_F) (n : Nat) (a0 : Nat) (x1 : Int32) (x2 : Int32) (x3 : Int32) (h : mm_H) : mm_R := mm_run E cl mm_m108 n 0 [some (.ref a0), some (.int x1), some (.int x2), some (.int x3)] [] h
set_option maxRecDepth 20000 in
set_option maxHeartbeats 4000000 in
theorem mm_e108_0 (E : mm_E) (cl : mm_F) (n : Nat) (a0 : Nat) (x1 : Int32) (x2 : Int32) (x3 : Int32) (h : mm_H) :
  mm_r108_0 E cl (n + 1) a0 x1 x2 x3 h =
  mm_cV [] (cl 133 [.ref a0, .int x1] h) fun h_1 =>
  mm_cV [] (cl 134 [.int x2, .int (mm_i 2)] h_1) fun h_2 =>
  (mm_br (x3 < (mm_i 0)) (
  some (.inr 1, (h_2.1, (none, (h_2.2.2.1 + 1, h_2.2.2.2 + 6))))) (
  (mm_br (x3 ≤ (mm_i 999)) (
    (mm_br (x2 = (mm_i 0)) (
      mm_gR h_2 a0 8 1 fun p_6 =>
        mm_cI [] (cl 47 [.ref p_6, .int x1, .int x3] h_2) fun v_8 h_7 =>
        some (.inl (some (.int v_8)), h_7)) (
      mm_gR h_2 a0 8 1 fun p_3 =>
        mm_cI [] (cl 49 [.ref p_3, .int x1, .int x3] h_2) fun v_5 h_4 =>
        some (.inl (some (.int v_5)), h_4)))) (
    some (.inr 1, (h_2.1, (none, (h_2.2.2.1 + 1, h_2.2.2.2 + 6)))))))) := (rfl)
-- PS.change
noncomputable def mm_r109_0 (E : mm_E) (cl : mm_F) (n : Nat) (a0 : Nat) (x1 : Int32) (x2 : Int32) (x3 : Int32) (h : mm_H) : mm_R := mm_run E cl mm_m109 n 0 [some (.ref a0), some (.int x1), some (.int x2), some (.int x3)] [] h
set_option maxRecDepth 20000 in
set_option maxHeartbeats 4000000 in
theorem mm_e109_0 (E : mm_E) (cl : mm_F) (n : Nat) (a0 : Nat) (x1 : Int32) (x2 : Int32) (x3 : Int32) (h : mm_H) :
  mm_r109_0 E cl (n + 1) a0 x1 x2 x3 h =
  mm_cV [] (cl 134 [.int x2, .int (mm_i 7)] h) fun h_1 =>
  (mm_br (x2 = (mm_i 6)) (
  mm_cI [] (cl 139 [.ref a0, .int x3] h_1) fun v_6 h_5 =>
    some (.inl (some (.int v_6)), h_5)) (
  mm_cV [] (cl 133 [.ref a0, .int x1] h_1) fun h_2 =>
    mm_cI [] (cl 140 [.ref a0, .int x1, .int x2, .int x3] h_2) fun v_4 h_3 =>
    some (.inl (some (.int v_4)), h_3))) := (rfl)
-- PS.add
noncomputable def mm_r110_0 (E : mm_E) (cl : mm_F) (n : Nat) (a0 : Nat) (x1 : Int32) (x2 : Int32) (x3 : Int32) (x4 : Int32) (h : mm_H) : mm_R := mm_run E cl mm_m110 n 0 [some (.ref a0), some (.int x1), some (.int x2), some (.int x3), some (.int x4), none] [] h
noncomputable def mm_r110_48 (E : mm_E) (cl : mm_F) (n : Nat) (a0 : Nat) (x1 : Int32) (x2 : Int32) (x3 : Int32) (x4 : Int32) (x5 : Int32) (h : mm_H) : mm_R := mm_run E cl mm_m110 n 48 [some (.ref a0), some (.int x1), some (.int x2), some (.int x3), some (.int x4), some (.int x5)] [] h
noncomputable def mm_r110_98 (E : mm_E) (cl : mm_F) (n : Nat) (a0 : Nat) (x1 : Int32) (x2 : Int32) (x3 : Int32) (x4 : Int32) (x5 : Int32) (h : mm_H) : mm_R := mm_run E cl mm_m110 n 98 [some (.ref a0), some (.int x1), some (.int x2), some (.int x3), some (.int x4), some (.int x5)] [] h
set_option maxRecDepth 20000 in
set_option maxHeartbeats 4000000 in
theorem mm_e110_0 (E : mm_E) (cl : mm_F) (n : Nat) (a0 : Nat) (x1 : Int32) (x2 : Int32) (x3 : Int32) (x4 : Int32) (h : mm_H) :
  mm_r110_0 E cl (n + 1) a0 x1 x2 x3 x4 h =
  mm_gR h a0 8 1 fun p_1 =>
  mm_gI h p_1 3 10 fun v_2 =>
  (mm_br ((mm_i 12) ≤ v_2) (
  some (.inl (some (.int (mm_i (-1)))), h)) (
  mm_cI [] (cl 132 [.ref a0, .int x1] h) fun v_4 h_3 =>
    (mm_br (v_4 = (mm_i 0)) (
    some (.inl (some (.int (mm_i (-1)))), h_3)) (
    mm_cI [] (cl 137 [.int (mm_i 0), .int x3] h_3) fun v_6 h_5 =>
      (mm_br (v_6 = (mm_i 0)) (
      some (.inl (some (.int (mm_i (-1)))), h_5)) (
      mm_cI [] (cl 137 [.int (mm_i 1), .int x4] h_5) fun v_8 h_7 =>
        (mm_br (v_8 = (mm_i 0)) (
        some (.inl (some (.int (mm_i (-1)))), h_7)) (
        mm_gR h_7 a0 8 1 fun p_9 =>
          mm_cI [] (cl 36 [.ref p_9] h_7) fun v_11 h_10 =>
          mm_r110_48 E cl n a0 x1 x2 x3 x4 v_11 h_10)))))))) := (rfl)
set_option maxRecDepth 20000 in
set_option maxHeartbeats 4000000 in
theorem mm_e110_48 (E : mm_E) (cl : mm_F) (n : Nat) (a0 : Nat) (x1 : Int32) (x2 : Int32) (x3 : Int32) (x4 : Int32) (x5 : Int32) (h : mm_H) :
  mm_r110_48 E cl (n + 1) a0 x1 x2 x3 x4 x5 h =
  mm_gR h a0 8 1 fun p_1 =>
  mm_cV [] (cl 31 [.ref p_1, .int x5, .int (mm_i 0), .int x3] h) fun h_2 =>
  mm_gR h_2 a0 8 1 fun p_3 =>
  mm_cV [] (cl 31 [.ref p_3, .int x5, .int (mm_i 1), .int x4] h_2) fun h_4 =>
  (mm_br (x2 = (mm_i 0)) (
  mm_gR h_4 a0 8 1 fun p_5 =>
    mm_cV [] (cl 38 [.ref p_5, .int x1, .int x5] h_4) fun h_6 =>
    mm_r110_98 E cl n a0 x1 x2 x3 x4 x5 h_6) (
  mm_gR h_4 a0 8 1 fun p_7 =>
    mm_cV [] (cl 38 [.ref p_7, .int x5, .int x1] h_4) fun h_8 =>
    mm_r110_98 E cl n a0 x1 x2 x3 x4 x5 h_8)) := (rfl)
set_option maxRecDepth 20000 in
set_option maxHeartbeats 4000000 in
theorem mm_e110_98 (E : mm_E) (cl : mm_F) (n : Nat) (a0 : Nat) (x1 : Int32) (x2 : Int32) (x3 : Int32) (x4 : Int32) (x5 : Int32) (h : mm_H) :
  mm_r110_98 E cl (n + 1) a0 x1 x2 x3 x4 x5 h =
  mm_gR h a0 8 1 fun p_1 =>
  mm_cV [] (cl 43 [.ref p_1] h) fun h_2 =>
  mm_gR h_2 a0 8 4 fun p_3 =>
  mm_cV [] (cl 1 [.ref p_3, .int (mm_i 8), .int x5, .int (mm_i 0)] h_2) fun h_4 =>
  some (.inl (some (.int x5)), h_4) := (rfl)
-- PS.supply
noncomputable def mm_r111_0 (E : mm_E) (cl : mm_F) (n : Nat) (a0 : Nat) (x1 : Int32) (x2 : Int32) (h : mm_H) : mm_R := mm_run E cl mm_m111 n 0 [some (.ref a0), some (.int x1), some (.int x2)] [] h
noncomputable def mm_r111_46 (E : mm_E) (cl : mm_F) (n : Nat) (a0 : Nat) (x1 : Int32) (x2 : Int32) (h : mm_H) : mm_R := mm_run E cl mm_m111 n 46 [some (.ref a0), some (.int x1), some (.int x2)] [] h
set_option maxRecDepth 20000 in
set_option maxHeartbeats 4000000 in
theorem mm_e111_0 (E : mm_E) (cl : mm_F) (n : Nat) (a0 : Nat) (x1 : Int32) (x2 : Int32) (h : mm_H) :
  mm_r111_0 E cl (n + 1) a0 x1 x2 h =
  mm_cI [] (cl 132 [.ref a0, .int x1] h) fun v_2 h_1 =>
  (mm_br (v_2 = (mm_i 0)) (
  some (.inl (some (.int (mm_i (-1)))), h_1)) (
  mm_cI [] (cl 132 [.ref a0, .int x2] h_1) fun v_4 h_3 =>
    (mm_br (v_4 = (mm_i 0)) (
    some (.inl (some (.int (mm_i (-1)))), h_3)) (
    mm_gR h_3 a0 8 1 fun p_5 =>
      mm_cI [] (cl 40 [.ref p_5, .int x1, .int x2] h_3) fun v_7 h_6 =>
      (mm_br (v_7 = (mm_i 0)) (
      mm_gR h_6 a0 8 1 fun p_8 =>
        mm_cV [] (cl 38 [.ref p_8, .int x1, .int x2] h_6) fun h_9 =>
        mm_gR h_9 a0 8 1 fun p_10 =>
        mm_cV [] (cl 43 [.ref p_10] h_9) fun h_11 =>
        mm_r111_46 E cl n a0 x1 x2 h_11) (
      some (.inl (some (.int (mm_i (-1)))), h_6))))))) := (rfl)
set_option maxRecDepth 20000 in
set_option maxHeartbeats 4000000 in
theorem mm_e111_46 (E : mm_E) (cl : mm_F) (n : Nat) (a0 : Nat) (x1 : Int32) (x2 : Int32) (h : mm_H) :
  mm_r111_46 E cl (n + 1) a0 x1 x2 h =
  mm_gR h a0 8 4 fun p_1 =>
  mm_cV [] (cl 1 [.ref p_1, .int (mm_i 9), .int x1, .int x2] h) fun h_2 =>
  mm_gR h_2 a0 8 1 fun p_3 =>
  mm_cI [] (cl 41 [.ref p_3] h_2) fun v_5 h_4 =>
  some (.inl (some (.int v_5)), h_4) := (rfl)
-- PS.pin
noncomputable def mm_r112_0 (E : mm_E) (cl : mm_F) (n : Nat) (a0 : Nat) (x1 : Int32) (x2 : Int32) (h : mm_H) : mm_R := mm_run E cl mm_m112 n 0 [some (.ref a0), some (.int x1), some (.int x2)] [] h
set_option maxRecDepth 20000 in
set_option maxHeartbeats 4000000 in
theorem mm_e112_0 (E : mm_E) (cl : mm_F) (n : Nat) (a0 : Nat) (x1 : Int32) (x2 : Int32) (h : mm_H) :
  mm_r112_0 E cl (n + 1) a0 x1 x2 h =
  mm_cV [] (cl 133 [.ref a0, .int x1] h) fun h_1 =>
  mm_cI [] (cl 140 [.ref a0, .int x1, .int (mm_i 6), .int x2] h_1) fun v_3 h_2 =>
  some (.inl (some (.int v_3)), h_2) := (rfl)
-- PS.undo
noncomputable def mm_r113_0 (E : mm_E) (cl : mm_F) (n : Nat) (a0 : Nat) (h : mm_H) : mm_R := mm_run E cl mm_m113 n 0 [some (.ref a0), none] [] h
noncomputable def mm_r113_51 (E : mm_E) (cl : mm_F) (n : Nat) (a0 : Nat) (x1 : Int32) (h : mm_H) : mm_R := mm_run E cl mm_m113 n 51 [some (.ref a0), some (.int x1)] [] h
set_option maxRecDepth 20000 in
set_option maxHeartbeats 4000000 in
theorem mm_e113_0 (E : mm_E) (cl : mm_F) (n : Nat) (a0 : Nat) (h : mm_H) :
  mm_r113_0 E cl (n + 1) a0 h =
  mm_gR h a0 8 4 fun p_1 =>
  mm_gI h p_1 0 3 fun v_2 =>
  (mm_br (v_2 = (mm_i 0)) (
  some (.inl (some (.int (mm_i (-1)))), h)) (
  mm_gR h a0 8 4 fun p_3 =>
    mm_cI [] (cl 2 [.ref p_3] h) fun v_5 h_4 =>
    mm_gR h_4 a0 8 4 fun p_6 =>
    mm_gR h_4 p_6 0 0 fun p_7 =>
    mm_rI E h_4 p_7 v_5 fun v_8 =>
    mm_gR h_4 a0 8 4 fun p_9 =>
    mm_gR h_4 p_9 0 1 fun p_10 =>
    mm_rI E h_4 p_10 v_5 fun v_11 =>
    mm_gR h_4 a0 8 4 fun p_12 =>
    mm_gR h_4 p_12 0 2 fun p_13 =>
    mm_rI E h_4 p_13 v_5 fun v_14 =>
    mm_cV [] (cl 141 [.ref a0, .int v_8, .int v_11, .int v_14] h_4) fun h_15 =>
    mm_r113_51 E cl n a0 v_5 h_15)) := (rfl)
set_option maxRecDepth 20000 in
set_option maxHeartbeats 4000000 in
theorem mm_e113_51 (E : mm_E) (cl : mm_F) (n : Nat) (a0 : Nat) (x1 : Int32) (h : mm_H) :
  mm_r113_51 E cl (n + 1) a0 x1 h =
  mm_gR h a0 8 1 fun p_1 =>
  mm_cV [] (cl 43 [.ref p_1] h) fun h_2 =>
  mm_gR h_2 a0 8 4 fun p_3 =>
  mm_gI h_2 p_3 0 3 fun v_4 =>
  some (.inl (some (.int v_4)), h_2) := (rfl)
-- PS.take
noncomputable def mm_r114_0 (E : mm_E) (cl : mm_F) (n : Nat) (a0 : Nat) (x1 : Int32) (h : mm_H) : mm_R := mm_run E cl mm_m114 n 0 [some (.ref a0), some (.int x1)] [] h
noncomputable def mm_r114_94 (E : mm_E) (cl : mm_F) (n : Nat) (a0 : Nat) (x1 : Int32) (h : mm_H) : mm_R := mm_run E cl mm_m114 n 94 [some (.ref a0), some (.int x1)] [] h
set_option maxRecDepth 20000 in
set_option maxHeartbeats 4000000 in
theorem mm_e114_0 (E : mm_E) (cl : mm_F) (n : Nat) (a0 : Nat) (x1 : Int32) (h : mm_H) :
  mm_r114_0 E cl (n + 1) a0 x1 h =
  (mm_br (x1 < (mm_i 0)) (
  some (.inl (some (.int (mm_i (-1)))), h)) (
  (mm_br (x1 ≤ (mm_i 3)) (
    (mm_br (x1 = (mm_i 2)) (
      mm_gR h a0 8 5 fun p_8 =>
        mm_gR h a0 8 1 fun p_9 =>
        mm_cI [] (cl 5 [.ref p_8, .ref p_9] h) fun v_11 h_10 =>
        (mm_br (v_11 = (mm_i (-1))) (
        some (.inl (some (.int (mm_i (-1)))), h_10)) (
        (mm_br (x1 = (mm_i 1)) (
          mm_gR h_10 a0 8 1 fun p_17 =>
            mm_cV [] (cl 57 [.ref p_17] h_10) fun h_18 =>
            mm_r114_94 E cl n a0 x1 h_18) (
          (mm_br (x1 = (mm_i 2)) (
          mm_cV [] (cl 142 [.ref a0] h_10) fun h_16 =>
            mm_r114_94 E cl n a0 x1 h_16) (
          (mm_br (x1 = (mm_i 3)) (
          mm_gR h_10 a0 8 1 fun p_14 =>
            mm_cV [] (cl 58 [.ref p_14] h_10) fun h_15 =>
            mm_r114_94 E cl n a0 x1 h_15) (
          mm_gR h_10 a0 8 1 fun p_12 =>
          mm_cV [] (cl 56 [.ref p_12] h_10) fun h_13 =>
          mm_r114_94 E cl n a0 x1 h_13))))))))) (
      (mm_br (x1 = (mm_i 1)) (
        mm_gR h a0 8 1 fun p_6 =>
          mm_cV [] (cl 57 [.ref p_6] h) fun h_7 =>
          mm_r114_94 E cl n a0 x1 h_7) (
        (mm_br (x1 = (mm_i 2)) (
        mm_cV [] (cl 142 [.ref a0] h) fun h_5 =>
          mm_r114_94 E cl n a0 x1 h_5) (
        (mm_br (x1 = (mm_i 3)) (
        mm_gR h a0 8 1 fun p_3 =>
          mm_cV [] (cl 58 [.ref p_3] h) fun h_4 =>
          mm_r114_94 E cl n a0 x1 h_4) (
        mm_gR h a0 8 1 fun p_1 =>
        mm_cV [] (cl 56 [.ref p_1] h) fun h_2 =>
        mm_r114_94 E cl n a0 x1 h_2))))))))) (
    some (.inl (some (.int (mm_i (-1)))), h))))) := (rfl)
set_option maxRecDepth 20000 in
set_option maxHeartbeats 4000000 in
theorem mm_e114_94 (E : mm_E) (cl : mm_F) (n : Nat) (a0 : Nat) (x1 : Int32) (h : mm_H) :
  mm_r114_94 E cl (n + 1) a0 x1 h =
  mm_gR h a0 8 1 fun p_1 =>
  mm_cI [] (cl 53 [.ref p_1] h) fun v_3 h_2 =>
  (mm_br (v_3 = (mm_i (-1))) (
  mm_gR h_2 a0 8 1 fun p_4 =>
    mm_cI [] (cl 54 [.ref p_4] h_2) fun v_6 h_5 =>
    some (.inl (some (.int v_6)), h_5)) (
  some (.inl (some (.int (mm_i (-2)))), h_2))) := (rfl)
-- PS.promise
noncomputable def mm_r115_0 (E : mm_E) (cl : mm_F) (n : Nat) (a0 : Nat) (x1 : Int32) (x2 : Int32) (h : mm_H) : mm_R := mm_run E cl mm_m115 n 0 [some (.ref a0), some (.int x1), some (.int x2), none] [] h
set_option maxRecDepth 20000 in
set_option maxHeartbeats 4000000 in
theorem mm_e115_0 (E : mm_E) (cl : mm_F) (n : Nat) (a0 : Nat) (x1 : Int32) (x2 : Int32) (h : mm_H) :
  mm_r115_0 E cl (n + 1) a0 x1 x2 h =
  mm_cV [] (cl 133 [.ref a0, .int x1] h) fun h_1 =>
  mm_cV [] (cl 136 [.int x2] h_1) fun h_2 =>
  mm_gR h_2 a0 8 1 fun p_3 =>
  mm_gR h_2 p_3 3 4 fun p_4 =>
  mm_rI E h_2 p_4 x1 fun v_5 =>
  mm_gR h_2 a0 8 1 fun p_6 =>
  mm_gR h_2 p_6 3 4 fun p_7 =>
  mm_wI h_2 p_7 x1 x2 fun h_8 =>
  some (.inl (some (.int v_5)), h_8) := (rfl)
-- PS.planned
noncomputable def mm_r116_0 (E : mm_E) (cl : mm_F) (n : Nat) (a0 : Nat) (x1 : Int32) (x2 : Int32) (h : mm_H) : mm_R := mm_run E cl mm_m116 n 0 [some (.ref a0), some (.int x1), some (.int x2)] [] h
set_option maxRecDepth 20000 in
set_option maxHeartbeats 4000000 in
theorem mm_e116_0 (E : mm_E) (cl : mm_F) (n : Nat) (a0 : Nat) (x1 : Int32) (x2 : Int32) (h : mm_H) :
  mm_r116_0 E cl (n + 1) a0 x1 x2 h =
  mm_cV [] (cl 133 [.ref a0, .int x1] h) fun h_1 =>
  mm_cV [] (cl 134 [.int x2, .int (mm_i 6)] h_1) fun h_2 =>
  mm_gR h_2 a0 8 1 fun p_3 =>
  mm_cI [] (cl 52 [.ref p_3, .int x1, .int x2] h_2) fun v_5 h_4 =>
  some (.inl (some (.int v_5)), h_4) := (rfl)
-- PS.plan
noncomputable def mm_r117_0 (E : mm_E) (cl : mm_F) (n : Nat) (a0 : Nat) (x1 : Int32) (h : mm_H) : mm_R := mm_run E cl mm_m117 n 0 [some (.ref a0), some (.int x1)] [] h
set_option maxRecDepth 20000 in
set_option maxHeartbeats 4000000 in
theorem mm_e117_0 (E : mm_E) (cl : mm_F) (n : Nat) (a0 : Nat) (x1 : Int32) (h : mm_H) :
  mm_r117_0 E cl (n + 1) a0 x1 h =
  mm_cV [] (cl 134 [.int x1, .int (mm_i 3)] h) fun h_1 =>
  (mm_br (x1 = (mm_i 0)) (
  mm_gR h_1 a0 8 1 fun p_8 =>
    mm_cI [] (cl 53 [.ref p_8] h_1) fun v_10 h_9 =>
    (mm_br (v_10 = (mm_i (-1))) (
    mm_gR h_9 a0 8 1 fun p_11 =>
      mm_cI [] (cl 54 [.ref p_11] h_9) fun v_13 h_12 =>
      some (.inl (some (.int v_13)), h_12)) (
    some (.inl (some (.int (mm_i (-1)))), h_9)))) (
  (mm_br (x1 = (mm_i 1)) (
  mm_gR h_1 a0 8 1 fun p_5 =>
    mm_cI [] (cl 53 [.ref p_5] h_1) fun v_7 h_6 =>
    some (.inl (some (.int v_7)), h_6)) (
  mm_gR h_1 a0 8 1 fun p_2 =>
  mm_cI [] (cl 55 [.ref p_2] h_1) fun v_4 h_3 =>
  some (.inl (some (.int v_4)), h_3))))) := (rfl)
-- PS.least
noncomputable def mm_r118_0 (E : mm_E) (cl : mm_F) (n : Nat) (a0 : Nat) (h : mm_H) : mm_R := mm_run E cl mm_m118 n 0 [some (.ref a0)] [] h
set_option maxRecDepth 20000 in
set_option maxHeartbeats 4000000 in
theorem mm_e118_0 (E : mm_E) (cl : mm_F) (n : Nat) (a0 : Nat) (h : mm_H) :
  mm_r118_0 E cl (n + 1) a0 h =
  mm_gR h a0 8 5 fun p_1 =>
  mm_gR h a0 8 1 fun p_2 =>
  mm_cI [] (cl 5 [.ref p_1, .ref p_2] h) fun v_4 h_3 =>
  some (.inl (some (.int v_4)), h_3) := (rfl)
-- PS.worth
noncomputable def mm_r119_0 (E : mm_E) (cl : mm_F) (n : Nat) (a0 : Nat) (x1 : Int32) (x2 : Int32) (h : mm_H) : mm_R := mm_run E cl mm_m119 n 0 [some (.ref a0), some (.int x1), some (.int x2), none, none, none, none, none] [] h
noncomputable def mm_r119_29 (E : mm_E) (cl : mm_F) (n : Nat) (a0 : Nat) (x1 : Int32) (x2 : Int32) (o3 : Option Value) (o4 : Option Value) (o5 : Option Value) (o6 : Option Value) (o7 : Option Value) (s0 : Int32) (h : mm_H) : mm_R := mm_run E cl mm_m119 n 29 [some (.ref a0), some (.int x1), some (.int x2), o3, o4, o5, o6, o7] [.int s0] h
noncomputable def mm_r119_52 (E : mm_E) (cl : mm_F) (n : Nat) (a0 : Nat) (x1 : Int32) (x2 : Int32) (x3 : Int32) (x4 : Int32) (o5 : Option Value) (o6 : Option Value) (o7 : Option Value) (s0 : Int32) (s1 : Int32) (h : mm_H) : mm_R := mm_run E cl mm_m119 n 52 [some (.ref a0), some (.int x1), some (.int x2), some (.int x3), some (.int x4), o5, o6, o7] [.int s1, .int s0] h
noncomputable def mm_r119_81 (E : mm_E) (cl : mm_F) (n : Nat) (a0 : Nat) (x1 : Int32) (x2 : Int32) (x3 : Int32) (x4 : Int32) (o5 : Option Value) (o6 : Option Value) (o7 : Option Value) (s0 : Int32) (h : mm_H) : mm_R := mm_run E cl mm_m119 n 81 [some (.ref a0), some (.int x1), some (.int x2), some (.int x3), some (.int x4), o5, o6, o7] [.int s0] h
set_option maxRecDepth 20000 in
set_option maxHeartbeats 4000000 in
theorem mm_e119_0 (E : mm_E) (cl : mm_F) (n : Nat) (a0 : Nat) (x1 : Int32) (x2 : Int32) (h : mm_H) :
  mm_r119_0 E cl (n + 1) a0 x1 x2 h =
  mm_cV [] (cl 133 [.ref a0, .int x1] h) fun h_1 =>
  mm_cV [] (cl 134 [.int x2, .int (mm_i 3)] h_1) fun h_2 =>
  (mm_br (x2 = (mm_i 0)) (
  mm_r119_29 E cl n a0 x1 x2 none none none none none (mm_i 0) h_2) (
  (mm_br (x2 = (mm_i 1)) (
    mm_r119_29 E cl n a0 x1 x2 none none none none none (mm_i 5) h_2) (
    mm_r119_29 E cl n a0 x1 x2 none none none none none (mm_i 6) h_2)))) := (rfl)
set_option maxRecDepth 20000 in
set_option maxHeartbeats 4000000 in
theorem mm_e119_29 (E : mm_E) (cl : mm_F) (n : Nat) (a0 : Nat) (x1 : Int32) (x2 : Int32) (o3 : Option Value) (o4 : Option Value) (o5 : Option Value) (o6 : Option Value) (o7 : Option Value) (s0 : Int32) (h : mm_H) :
  mm_r119_29 E cl (n + 1) a0 x1 x2 o3 o4 o5 o6 o7 s0 h =
  mm_gR h a0 8 1 fun p_1 =>
  mm_cI [] (cl 30 [.ref p_1, .int x1, .int s0] h) fun v_3 h_2 =>
  (mm_br (x2 = (mm_i 0)) (
  mm_r119_52 E cl n a0 x1 x2 s0 v_3 o5 o6 o7 v_3 (mm_i 0) h_2) (
  mm_r119_52 E cl n a0 x1 x2 s0 v_3 o5 o6 o7 v_3 (mm_i (-1)) h_2)) := (rfl)
set_option maxRecDepth 20000 in
set_option maxHeartbeats 4000000 in
theorem mm_e119_52 (E : mm_E) (cl : mm_F) (n : Nat) (a0 : Nat) (x1 : Int32) (x2 : Int32) (x3 : Int32) (x4 : Int32) (o5 : Option Value) (o6 : Option Value) (o7 : Option Value) (s0 : Int32) (s1 : Int32) (h : mm_H) :
  mm_r119_52 E cl (n + 1) a0 x1 x2 x3 x4 o5 o6 o7 s0 s1 h =
  (mm_br (s0 = s1) (
  some (.inl (some (.int (mm_i 0))), h)) (
  (mm_br (x2 = (mm_i 0)) (
    mm_r119_81 E cl n a0 x1 x2 x3 x4 o5 o6 o7 (x4 - (mm_i 1)) h) (
    (mm_br (x2 = (mm_i 1)) (
      mm_r119_81 E cl n a0 x1 x2 x3 x4 o5 o6 o7 (x4 + (mm_i 1)) h) (
      mm_r119_81 E cl n a0 x1 x2 x3 x4 o5 o6 o7 (mm_i (-1)) h)))))) := (rfl)
set_option maxRecDepth 20000 in
set_option maxHeartbeats 4000000 in
theorem mm_e119_81 (E : mm_E) (cl : mm_F) (n : Nat) (a0 : Nat) (x1 : Int32) (x2 : Int32) (x3 : Int32) (x4 : Int32) (o5 : Option Value) (o6 : Option Value) (o7 : Option Value) (s0 : Int32) (h : mm_H) :
  mm_r119_81 E cl (n + 1) a0 x1 x2 x3 x4 o5 o6 o7 s0 h =
  mm_gR h a0 8 5 fun p_1 =>
  mm_gR h a0 8 1 fun p_2 =>
  mm_cI [] (cl 5 [.ref p_1, .ref p_2] h) fun v_4 h_3 =>
  mm_cI [] (cl 143 [.ref a0, .int x1, .int x3, .int s0] h_3) fun v_6 h_5 =>
  (mm_br (v_4 = (mm_i (-1))) (
  some (.inl (some (.int (mm_i (-1000000)))), h_5)) (
  (mm_br (v_6 = (mm_i (-1))) (
    some (.inl (some (.int (mm_i (-1000000)))), h_5)) (
    some (.inl (some (.int (v_4 - v_6))), h_5))))) := (rfl)
-- PS.even
noncomputable def mm_r120_0 (E : mm_E) (cl : mm_F) (n : Nat) (a0 : Nat) (x1 : Int32) (h : mm_H) : mm_R := mm_run E cl mm_m120 n 0 [some (.ref a0), some (.int x1)] [] h
set_option maxRecDepth 20000 in
set_option maxHeartbeats 4000000 in
theorem mm_e120_0 (E : mm_E) (cl : mm_F) (n : Nat) (a0 : Nat) (x1 : Int32) (h : mm_H) :
  mm_r120_0 E cl (n + 1) a0 x1 h =
  (mm_br (x1 < (mm_i 0)) (
  some (.inr 1, (h.1, (none, (h.2.2.1 + 1, h.2.2.2 + 6))))) (
  (mm_br (x1 ≤ (mm_i 20)) (
    mm_cI [] (cl 144 [.ref a0, .int x1] h) fun v_2 h_1 =>
      some (.inl (some (.int v_2)), h_1)) (
    some (.inr 1, (h.1, (none, (h.2.2.1 + 1, h.2.2.2 + 6)))))))) := (rfl)
-- PS.budget
noncomputable def mm_r121_0 (E : mm_E) (cl : mm_F) (n : Nat) (a0 : Nat) (x1 : Int32) (h : mm_H) : mm_R := mm_run E cl mm_m121 n 0 [some (.ref a0), some (.int x1), none, none] [] h
noncomputable def mm_r121_2 (E : mm_E) (cl : mm_F) (n : Nat) (a0 : Nat) (x1 : Int32) (x2 : Int32) (o3 : Option Value) (h : mm_H) : mm_R := mm_run E cl mm_m121 n 2 [some (.ref a0), some (.int x1), some (.int x2), o3] [] h
set_option maxRecDepth 20000 in
set_option maxHeartbeats 4000000 in
theorem mm_e121_0 (E : mm_E) (cl : mm_F) (n : Nat) (a0 : Nat) (x1 : Int32) (h : mm_H) :
  mm_r121_0 E cl (n + 1) a0 x1 h =
  mm_r121_2 E cl n a0 x1 (mm_i 0) none h := (rfl)
set_option maxRecDepth 20000 in
set_option maxHeartbeats 4000000 in
theorem mm_e121_2 (E : mm_E) (cl : mm_F) (n : Nat) (a0 : Nat) (x1 : Int32) (x2 : Int32) (o3 : Option Value) (h : mm_H) :
  mm_r121_2 E cl (n + 1) a0 x1 x2 o3 h =
  (mm_br ((mm_i 20) < x2) (
  some (.inl (some (.int (mm_i (-1)))), h)) (
  mm_cI [] (cl 144 [.ref a0, .int x2] h) fun v_2 h_1 =>
    (mm_br (v_2 = (mm_i (-1))) (
    mm_r121_2 E cl n a0 x1 (x2 + (mm_i 1)) (some (.int v_2)) h_1) (
    (mm_br (x1 < v_2) (
      mm_r121_2 E cl n a0 x1 (x2 + (mm_i 1)) (some (.int v_2)) h_1) (
      some (.inl (some (.int x2)), h_1))))))) := (rfl)
-- PS.pinned
noncomputable def mm_r122_0 (E : mm_E) (cl : mm_F) (n : Nat) (a0 : Nat) (x1 : Int32) (x2 : Int32) (h : mm_H) : mm_R := mm_run E cl mm_m122 n 0 [some (.ref a0), some (.int x1), some (.int x2)] [] h
set_option maxRecDepth 20000 in
set_option maxHeartbeats 4000000 in
theorem mm_e122_0 (E : mm_E) (cl : mm_F) (n : Nat) (a0 : Nat) (x1 : Int32) (x2 : Int32) (h : mm_H) :
  mm_r122_0 E cl (n + 1) a0 x1 x2 h =
  mm_cV [] (cl 133 [.ref a0, .int x1] h) fun h_1 =>
  mm_cV [] (cl 136 [.int x2] h_1) fun h_2 =>
  mm_cI [] (cl 143 [.ref a0, .int x1, .int (mm_i 6), .int x2] h_2) fun v_4 h_3 =>
  some (.inl (some (.int v_4)), h_3) := (rfl)
-- PS.demand
noncomputable def mm_r123_0 (E : mm_E) (cl : mm_F) (n : Nat) (a0 : Nat) (x1 : Int32) (x2 : Int32) (x3 : Int32) (h : mm_H) : mm_R := mm_run E cl mm_m123 n 0 [some (.ref a0), some (.int x1), some (.int x2), some (.int x3), none, none] [] h
noncomputable def mm_r123_51 (E : mm_E) (cl : mm_F) (n : Nat) (a0 : Nat) (x1 : Int32) (x2 : Int32) (x3 : Int32) (x4 : Int32) (x5 : Int32) (h : mm_H) : mm_R := mm_run E cl mm_m123 n 51 [some (.ref a0), some (.int x1), some (.int x2), some (.int x3), some (.int x4), some (.int x5)] [] h
set_option maxRecDepth 20000 in
set_option maxHeartbeats 4000000 in
theorem mm_e123_0 (E : mm_E) (cl : mm_F) (n : Nat) (a0 : Nat) (x1 : Int32) (x2 : Int32) (x3 : Int32) (h : mm_H) :
  mm_r123_0 E cl (n + 1) a0 x1 x2 x3 h =
  mm_cV [] (cl 133 [.ref a0, .int x1] h) fun h_1 =>
  mm_cV [] (cl 135 [.int x2] h_1) fun h_2 =>
  (mm_br (x3 < (mm_i 0)) (
  some (.inr 1, (h_2.1, (none, (h_2.2.2.1 + 1, h_2.2.2.2 + 6))))) (
  (mm_br (x3 ≤ (mm_i 999)) (
    mm_gR h_2 a0 8 1 fun p_3 =>
      mm_gR h_2 p_3 3 5 fun p_4 =>
      mm_rI E h_2 p_4 ((x1 * (mm_i 40)) + x2) fun v_5 =>
      mm_r123_51 E cl n a0 x1 x2 x3 ((x1 * (mm_i 40)) + x2) v_5 h_2) (
    some (.inr 1, (h_2.1, (none, (h_2.2.2.1 + 1, h_2.2.2.2 + 6)))))))) := (rfl)
set_option maxRecDepth 20000 in
set_option maxHeartbeats 4000000 in
theorem mm_e123_51 (E : mm_E) (cl : mm_F) (n : Nat) (a0 : Nat) (x1 : Int32) (x2 : Int32) (x3 : Int32) (x4 : Int32) (x5 : Int32) (h : mm_H) :
  mm_r123_51 E cl (n + 1) a0 x1 x2 x3 x4 x5 h =
  mm_gR h a0 8 1 fun p_1 =>
  mm_gR h p_1 3 5 fun p_2 =>
  mm_wI h p_2 x4 x3 fun h_3 =>
  some (.inl (some (.int x5)), h_3) := (rfl)
-- PS.drawn
noncomputable def mm_r124_0 (E : mm_E) (cl : mm_F) (n : Nat) (a0 : Nat) (x1 : Int32) (x2 : Int32) (h : mm_H) : mm_R := mm_run E cl mm_m124 n 0 [some (.ref a0), some (.int x1), some (.int x2), none, none, none, none, none] [] h
noncomputable def mm_r124_28 (E : mm_E) (cl : mm_F) (n : Nat) (a0 : Nat) (x1 : Int32) (x2 : Int32) (x3 : Int32) (x4 : Int32) (x5 : Int32) (x6 : Int32) (o7 : Option Value) (h : mm_H) : mm_R := mm_run E cl mm_m124 n 28 [some (.ref a0), some (.int x1), some (.int x2), some (.int x3), some (.int x4), some (.int x5), some (.int x6), o7] [] h
noncomputable def mm_r124_68 (E : mm_E) (cl : mm_F) (n : Nat) (a0 : Nat) (x1 : Int32) (x2 : Int32) (x3 : Int32) (x4 : Int32) (x5 : Int32) (x6 : Int32) (x7 : Int32) (h : mm_H) : mm_R := mm_run E cl mm_m124 n 68 [some (.ref a0), some (.int x1), some (.int x2), some (.int x3), some (.int x4), some (.int x5), some (.int x6), some (.int x7)] [] h
set_option maxRecDepth 20000 in
set_option maxHeartbeats 4000000 in
theorem mm_e124_0 (E : mm_E) (cl : mm_F) (n : Nat) (a0 : Nat) (x1 : Int32) (x2 : Int32) (h : mm_H) :
  mm_r124_0 E cl (n + 1) a0 x1 x2 h =
  mm_cV [] (cl 133 [.ref a0, .int x1] h) fun h_1 =>
  mm_gR h_1 a0 8 1 fun p_2 =>
  mm_cI [] (cl 30 [.ref p_2, .int x1, .int (mm_i 3)] h_1) fun v_4 h_3 =>
  mm_r124_28 E cl n a0 x1 x2 (((mm_i 2) * v_4) + (mm_i 1)) x2 (mm_i 0) (mm_i 0) none h_3 := (rfl)
set_option maxRecDepth 20000 in
set_option maxHeartbeats 4000000 in
theorem mm_e124_28 (E : mm_E) (cl : mm_F) (n : Nat) (a0 : Nat) (x1 : Int32) (x2 : Int32) (x3 : Int32) (x4 : Int32) (x5 : Int32) (x6 : Int32) (o7 : Option Value) (h : mm_H) :
  mm_r124_28 E cl (n + 1) a0 x1 x2 x3 x4 x5 x6 o7 h =
  (mm_br ((mm_i 40) ≤ x6) (
  some (.inl (some (.int x5)), h)) (
  (mm_br (x3 ≤ (mm_i 0)) (
    mm_r124_68 E cl n a0 x1 x2 x3 ((x4 * (mm_i 1103515245)) + (mm_i 12345)) x5 x6 (mm_i 0) h) (
    (mm_nz x3 (
      mm_r124_68 E cl n a0 x1 x2 x3 ((x4 * (mm_i 1103515245)) + (mm_i 12345)) x5 x6 (((((((x4 * (mm_i 1103515245)) + (mm_i 12345))).toUInt32 >>> (((mm_i 16) : Int32).toUInt32 &&& Int32.toUInt32 31)).toInt32) &&& (mm_i 32767)) - ((((((x4 * (mm_i 1103515245)) + (mm_i 12345))).toUInt32 >>> (((mm_i 16) : Int32).toUInt32 &&& Int32.toUInt32 31)).toInt32) &&& (mm_i 32767)) / x3 * x3) h)))))) := (rfl)
set_option maxRecDepth 20000 in
set_option maxHeartbeats 4000000 in
theorem mm_e124_68 (E : mm_E) (cl : mm_F) (n : Nat) (a0 : Nat) (x1 : Int32) (x2 : Int32) (x3 : Int32) (x4 : Int32) (x5 : Int32) (x6 : Int32) (x7 : Int32) (h : mm_H) :
  mm_r124_68 E cl (n + 1) a0 x1 x2 x3 x4 x5 x6 x7 h =
  mm_gR h a0 8 1 fun p_1 =>
  mm_gR h p_1 3 5 fun p_2 =>
  mm_wI h p_2 ((x1 * (mm_i 40)) + x6) x7 fun h_3 =>
  mm_r124_28 E cl n a0 x1 x2 x3 x4 (x5 + x7) (x6 + (mm_i 1)) (some (.int x7)) h_3 := (rfl)
-- PS.day
noncomputable def mm_r125_0 (E : mm_E) (cl : mm_F) (n : Nat) (a0 : Nat) (x1 : Int32) (x2 : Int32) (x3 : Int32) (h : mm_H) : mm_R := mm_run E cl mm_m125 n 0 [some (.ref a0), some (.int x1), some (.int x2), some (.int x3)] [] h
noncomputable def mm_r125_52 (E : mm_E) (cl : mm_F) (n : Nat) (a0 : Nat) (x1 : Int32) (x2 : Int32) (x3 : Int32) (h : mm_H) : mm_R := mm_run E cl mm_m125 n 52 [some (.ref a0), some (.int x1), some (.int x2), some (.int x3)] [] h
noncomputable def mm_r125_67 (E : mm_E) (cl : mm_F) (n : Nat) (a0 : Nat) (x1 : Int32) (x2 : Int32) (x3 : Int32) (h : mm_H) : mm_R := mm_run E cl mm_m125 n 67 [some (.ref a0), some (.int x1), some (.int x2), some (.int x3)] [] h
noncomputable def mm_r125_77 (E : mm_E) (cl : mm_F) (n : Nat) (a0 : Nat) (x1 : Int32) (x2 : Int32) (x3 : Int32) (h : mm_H) : mm_R := mm_run E cl mm_m125 n 77 [some (.ref a0), some (.int x1), some (.int x2), some (.int x3)] [] h
noncomputable def mm_r125_93 (E : mm_E) (cl : mm_F) (n : Nat) (a0 : Nat) (x1 : Int32) (x2 : Int32) (x3 : Int32) (h : mm_H) : mm_R := mm_run E cl mm_m125 n 93 [some (.ref a0), some (.int x1), some (.int x2), some (.int x3)] [] h
noncomputable def mm_r125_102 (E : mm_E) (cl : mm_F) (n : Nat) (a0 : Nat) (x1 : Int32) (x2 : Int32) (x3 : Int32) (h : mm_H) : mm_R := mm_run E cl mm_m125 n 102 [some (.ref a0), some (.int x1), some (.int x2), some (.int x3)] [] h
noncomputable def mm_r125_114 (E : mm_E) (cl : mm_F) (n : Nat) (a0 : Nat) (x1 : Int32) (x2 : Int32) (x3 : Int32) (h : mm_H) : mm_R := mm_run E cl mm_m125 n 114 [some (.ref a0), some (.int x1), some (.int x2), some (.int x3)] [] h
set_option maxRecDepth 20000 in
set_option maxHeartbeats 4000000 in
theorem mm_e125_0 (E : mm_E) (cl : mm_F) (n : Nat) (a0 : Nat) (x1 : Int32) (x2 : Int32) (x3 : Int32) (h : mm_H) :
  mm_r125_0 E cl (n + 1) a0 x1 x2 x3 h =
  mm_cV [] (cl 133 [.ref a0, .int x1] h) fun h_1 =>
  mm_cV [] (cl 135 [.int x2] h_1) fun h_2 =>
  mm_cV [] (cl 134 [.int x3, .int (mm_i 4)] h_2) fun h_3 =>
  mm_gR h_3 a0 8 6 fun p_4 =>
  mm_gR h_3 a0 8 1 fun p_5 =>
  mm_cV [] (cl 20 [.ref p_4, .ref p_5, .int x1] h_3) fun h_6 =>
  (mm_br (x3 = (mm_i 0)) (
  mm_r125_52 E cl n a0 x1 x2 x3 h_6) (
  (mm_br (x3 = (mm_i 1)) (
  mm_r125_67 E cl n a0 x1 x2 x3 h_6) (
  (mm_br (x3 = (mm_i 2)) (
  mm_r125_77 E cl n a0 x1 x2 x3 h_6) (
  mm_r125_102 E cl n a0 x1 x2 x3 h_6)))))) := (rfl)
set_option maxRecDepth 20000 in
set_option maxHeartbeats 4000000 in
theorem mm_e125_52 (E : mm_E) (cl : mm_F) (n : Nat) (a0 : Nat) (x1 : Int32) (x2 : Int32) (x3 : Int32) (h : mm_H) :
  mm_r125_52 E cl (n + 1) a0 x1 x2 x3 h =
  mm_gR h a0 8 1 fun p_1 =>
  mm_gR h p_1 3 5 fun p_2 =>
  mm_rI E h p_2 ((x1 * (mm_i 40)) + x2) fun v_3 =>
  some (.inl (some (.int v_3)), h) := (rfl)
set_option maxRecDepth 20000 in
set_option maxHeartbeats 4000000 in
theorem mm_e125_67 (E : mm_E) (cl : mm_F) (n : Nat) (a0 : Nat) (x1 : Int32) (x2 : Int32) (x3 : Int32) (h : mm_H) :
  mm_r125_67 E cl (n + 1) a0 x1 x2 x3 h =
  mm_gR h a0 8 6 fun p_1 =>
  mm_cI [] (cl 22 [.ref p_1, .int x2, .int x2] h) fun v_3 h_2 =>
  some (.inl (some (.int v_3)), h_2) := (rfl)
set_option maxRecDepth 20000 in
set_option maxHeartbeats 4000000 in
theorem mm_e125_77 (E : mm_E) (cl : mm_F) (n : Nat) (a0 : Nat) (x1 : Int32) (x2 : Int32) (x3 : Int32) (h : mm_H) :
  mm_r125_77 E cl (n + 1) a0 x1 x2 x3 h =
  mm_gR h a0 8 6 fun p_1 =>
  mm_gI h p_1 2 2 fun v_2 =>
  (mm_br ((mm_i 0) ≤ v_2) (
  mm_r125_93 E cl n a0 x1 x2 x3 h) (
  some (.inl (some (.int (mm_i (-1000000)))), h))) := (rfl)
set_option maxRecDepth 20000 in
set_option maxHeartbeats 4000000 in
theorem mm_e125_93 (E : mm_E) (cl : mm_F) (n : Nat) (a0 : Nat) (x1 : Int32) (x2 : Int32) (x3 : Int32) (h : mm_H) :
  mm_r125_93 E cl (n + 1) a0 x1 x2 x3 h =
  mm_gR h a0 8 6 fun p_1 =>
  mm_cI [] (cl 23 [.ref p_1, .int x2] h) fun v_3 h_2 =>
  some (.inl (some (.int v_3)), h_2) := (rfl)
set_option maxRecDepth 20000 in
set_option maxHeartbeats 4000000 in
theorem mm_e125_102 (E : mm_E) (cl : mm_F) (n : Nat) (a0 : Nat) (x1 : Int32) (x2 : Int32) (x3 : Int32) (h : mm_H) :
  mm_r125_102 E cl (n + 1) a0 x1 x2 x3 h =
  mm_gR h a0 8 6 fun p_1 =>
  mm_gR h a0 8 1 fun p_2 =>
  mm_cV [] (cl 21 [.ref p_1, .ref p_2, .int x1] h) fun h_3 =>
  mm_r125_114 E cl n a0 x1 x2 x3 h_3 := (rfl)
set_option maxRecDepth 20000 in
set_option maxHeartbeats 4000000 in
theorem mm_e125_114 (E : mm_E) (cl : mm_F) (n : Nat) (a0 : Nat) (x1 : Int32) (x2 : Int32) (x3 : Int32) (h : mm_H) :
  mm_r125_114 E cl (n + 1) a0 x1 x2 x3 h =
  mm_gR h a0 8 6 fun p_1 =>
  mm_cI [] (cl 24 [.ref p_1, .int x2] h) fun v_3 h_2 =>
  some (.inl (some (.int v_3)), h_2) := (rfl)
-- PS.days
noncomputable def mm_r126_0 (E : mm_E) (cl : mm_F) (n : Nat) (a0 : Nat) (x1 : Int32) (x2 : Int32) (h : mm_H) : mm_R := mm_run E cl mm_m126 n 0 [some (.ref a0), some (.int x1), some (.int x2)] [] h
noncomputable def mm_r126_39 (E : mm_E) (cl : mm_F) (n : Nat) (a0 : Nat) (x1 : Int32) (x2 : Int32) (h : mm_H) : mm_R := mm_run E cl mm_m126 n 39 [some (.ref a0), some (.int x1), some (.int x2)] [] h
noncomputable def mm_r126_57 (E : mm_E) (cl : mm_F) (n : Nat) (a0 : Nat) (x1 : Int32) (x2 : Int32) (h : mm_H) : mm_R := mm_run E cl mm_m126 n 57 [some (.ref a0), some (.int x1), some (.int x2)] [] h
noncomputable def mm_r126_69 (E : mm_E) (cl : mm_F) (n : Nat) (a0 : Nat) (x1 : Int32) (x2 : Int32) (h : mm_H) : mm_R := mm_run E cl mm_m126 n 69 [some (.ref a0), some (.int x1), some (.int x2)] [] h
noncomputable def mm_r126_73 (E : mm_E) (cl : mm_F) (n : Nat) (a0 : Nat) (x1 : Int32) (x2 : Int32) (h : mm_H) : mm_R := mm_run E cl mm_m126 n 73 [some (.ref a0), some (.int x1), some (.int x2)] [] h
noncomputable def mm_r126_83 (E : mm_E) (cl : mm_F) (n : Nat) (a0 : Nat) (x1 : Int32) (x2 : Int32) (h : mm_H) : mm_R := mm_run E cl mm_m126 n 83 [some (.ref a0), some (.int x1), some (.int x2)] [] h
set_option maxRecDepth 20000 in
set_option maxHeartbeats 4000000 in
theorem mm_e126_0 (E : mm_E) (cl : mm_F) (n : Nat) (a0 : Nat) (x1 : Int32) (x2 : Int32) (h : mm_H) :
  mm_r126_0 E cl (n + 1) a0 x1 x2 h =
  mm_cV [] (cl 133 [.ref a0, .int x1] h) fun h_1 =>
  mm_cV [] (cl 134 [.int x2, .int (mm_i 3)] h_1) fun h_2 =>
  mm_gR h_2 a0 8 6 fun p_3 =>
  mm_gR h_2 a0 8 1 fun p_4 =>
  mm_cV [] (cl 20 [.ref p_3, .ref p_4, .int x1] h_2) fun h_5 =>
  (mm_br (x2 = (mm_i 1)) (
  mm_gR h_5 a0 8 6 fun p_8 =>
    mm_gR h_5 a0 8 1 fun p_9 =>
    mm_cV [] (cl 21 [.ref p_8, .ref p_9, .int x1] h_5) fun h_10 =>
    mm_r126_39 E cl n a0 x1 x2 h_10) (
  mm_gR h_5 a0 8 6 fun p_6 =>
    mm_gI h_5 p_6 2 2 fun v_7 =>
    (mm_br ((mm_i 0) ≤ v_7) (
    mm_r126_69 E cl n a0 x1 x2 h_5) (
    mm_r126_57 E cl n a0 x1 x2 h_5)))) := (rfl)
set_option maxRecDepth 20000 in
set_option maxHeartbeats 4000000 in
theorem mm_e126_39 (E : mm_E) (cl : mm_F) (n : Nat) (a0 : Nat) (x1 : Int32) (x2 : Int32) (h : mm_H) :
  mm_r126_39 E cl (n + 1) a0 x1 x2 h =
  mm_gR h a0 8 6 fun p_1 =>
  mm_cI [] (cl 25 [.ref p_1] h) fun v_3 h_2 =>
  some (.inl (some (.int v_3)), h_2) := (rfl)
set_option maxRecDepth 20000 in
set_option maxHeartbeats 4000000 in
theorem mm_e126_57 (E : mm_E) (cl : mm_F) (n : Nat) (a0 : Nat) (x1 : Int32) (x2 : Int32) (h : mm_H) :
  mm_r126_57 E cl (n + 1) a0 x1 x2 h =
  (mm_br (x2 = (mm_i 0)) (
  some (.inl (some (.int (mm_i (-1)))), h)) (
  some (.inl (some (.int (mm_i (-1000000)))), h))) := (rfl)
set_option maxRecDepth 20000 in
set_option maxHeartbeats 4000000 in
theorem mm_e126_69 (E : mm_E) (cl : mm_F) (n : Nat) (a0 : Nat) (x1 : Int32) (x2 : Int32) (h : mm_H) :
  mm_r126_69 E cl (n + 1) a0 x1 x2 h =
  (mm_br (x2 = (mm_i 0)) (
  mm_r126_73 E cl n a0 x1 x2 h) (
  mm_r126_83 E cl n a0 x1 x2 h)) := (rfl)
set_option maxRecDepth 20000 in
set_option maxHeartbeats 4000000 in
theorem mm_e126_73 (E : mm_E) (cl : mm_F) (n : Nat) (a0 : Nat) (x1 : Int32) (x2 : Int32) (h : mm_H) :
  mm_r126_73 E cl (n + 1) a0 x1 x2 h =
  mm_gR h a0 8 6 fun p_1 =>
  mm_cI [] (cl 26 [.ref p_1] h) fun v_3 h_2 =>
  some (.inl (some (.int v_3)), h_2) := (rfl)
set_option maxRecDepth 20000 in
set_option maxHeartbeats 4000000 in
theorem mm_e126_83 (E : mm_E) (cl : mm_F) (n : Nat) (a0 : Nat) (x1 : Int32) (x2 : Int32) (h : mm_H) :
  mm_r126_83 E cl (n + 1) a0 x1 x2 h =
  mm_gR h a0 8 6 fun p_1 =>
  mm_cI [] (cl 27 [.ref p_1] h) fun v_3 h_2 =>
  some (.inl (some (.int v_3)), h_2) := (rfl)
-- PS.ask
noncomputable def mm_r127_0 (E : mm_E) (cl : mm_F) (n : Nat) (a0 : Nat) (x1 : Int32) (h : mm_H) : mm_R := mm_run E cl mm_m127 n 0 [some (.ref a0), some (.int x1), none] [] h
noncomputable def mm_r127_47 (E : mm_E) (cl : mm_F) (n : Nat) (a0 : Nat) (x1 : Int32) (x2 : Int32) (h : mm_H) : mm_R := mm_run E cl mm_m127 n 47 [some (.ref a0), some (.int x1), some (.int x2)] [] h
noncomputable def mm_r127_51 (E : mm_E) (cl : mm_F) (n : Nat) (a0 : Nat) (x1 : Int32) (x2 : Int32) (h : mm_H) : mm_R := mm_run E cl mm_m127 n 51 [some (.ref a0), some (.int x1), some (.int x2)] [] h
set_option maxRecDepth 20000 in
set_option maxHeartbeats 4000000 in
theorem mm_e127_0 (E : mm_E) (cl : mm_F) (n : Nat) (a0 : Nat) (x1 : Int32) (h : mm_H) :
  mm_r127_0 E cl (n + 1) a0 x1 h =
  (mm_br (x1 < (mm_i 0)) (
  some (.inr 1, (h.1, (none, (h.2.2.1 + 1, h.2.2.2 + 6))))) (
  (mm_br ((mm_i 200) < x1) (
    some (.inr 1, (h.1, (none, (h.2.2.1 + 1, h.2.2.2 + 6))))) (
    mm_gR h a0 8 0 fun p_1 =>
      mm_gI h p_1 7 1 fun v_2 =>
      (mm_br (x1 ≤ v_2) (
      mm_gR h a0 8 8 fun p_3 =>
        mm_cI [] (cl 63 [.ref p_3, .int x1] h) fun v_5 h_4 =>
        mm_cV [] (cl 138 [.ref a0, .int v_5] h_4) fun h_6 =>
        mm_r127_47 E cl n a0 x1 v_5 h_6) (
      some (.inr 1, (h.1, (none, (h.2.2.1 + 1, h.2.2.2 + 6)))))))))) := (rfl)
set_option maxRecDepth 20000 in
set_option maxHeartbeats 4000000 in
theorem mm_e127_47 (E : mm_E) (cl : mm_F) (n : Nat) (a0 : Nat) (x1 : Int32) (x2 : Int32) (h : mm_H) :
  mm_r127_47 E cl (n + 1) a0 x1 x2 h =
  (mm_br (x2 = (mm_i 0)) (
  mm_r127_51 E cl n a0 x1 x2 h) (
  some (.inl (some (.int ((mm_i (-1000000000)) - x2))), h))) := (rfl)
set_option maxRecDepth 20000 in
set_option maxHeartbeats 4000000 in
theorem mm_e127_51 (E : mm_E) (cl : mm_F) (n : Nat) (a0 : Nat) (x1 : Int32) (x2 : Int32) (h : mm_H) :
  mm_r127_51 E cl (n + 1) a0 x1 x2 h =
  mm_gR h a0 8 8 fun p_1 =>
  mm_cI [] (cl 71 [.ref p_1] h) fun v_3 h_2 =>
  some (.inl (some (.int v_3)), h_2) := (rfl)
-- PS.chain
noncomputable def mm_r128_0 (E : mm_E) (cl : mm_F) (n : Nat) (a0 : Nat) (x1 : Int32) (x2 : Int32) (h : mm_H) : mm_R := mm_run E cl mm_m128 n 0 [some (.ref a0), some (.int x1), some (.int x2), none, none, none] [] h
noncomputable def mm_r128_13 (E : mm_E) (cl : mm_F) (n : Nat) (a0 : Nat) (x1 : Int32) (x2 : Int32) (x3 : Int32) (x4 : Int32) (x5 : Int32) (h : mm_H) : mm_R := mm_run E cl mm_m128 n 13 [some (.ref a0), some (.int x1), some (.int x2), some (.int x3), some (.int x4), some (.int x5)] [] h
set_option maxRecDepth 20000 in
set_option maxHeartbeats 4000000 in
theorem mm_e128_0 (E : mm_E) (cl : mm_F) (n : Nat) (a0 : Nat) (x1 : Int32) (x2 : Int32) (h : mm_H) :
  mm_r128_0 E cl (n + 1) a0 x1 x2 h =
  mm_cV [] (cl 133 [.ref a0, .int x1] h) fun h_1 =>
  mm_r128_13 E cl n a0 x1 x2 x1 (mm_i 0) (mm_i 0) h_1 := (rfl)
set_option maxRecDepth 20000 in
set_option maxHeartbeats 4000000 in
theorem mm_e128_13 (E : mm_E) (cl : mm_F) (n : Nat) (a0 : Nat) (x1 : Int32) (x2 : Int32) (x3 : Int32) (x4 : Int32) (x5 : Int32) (h : mm_H) :
  mm_r128_13 E cl (n + 1) a0 x1 x2 x3 x4 x5 h =
  (mm_br ((mm_i 12) ≤ x5) (
  (mm_br (x2 = (mm_i (-1))) (
    some (.inl (some (.int x4)), h)) (
    some (.inr 0, (h.1, (none, (h.2.2.1 + 1, h.2.2.2 + 6))))))) (
  (mm_br (x3 = (mm_i (-1))) (
    (mm_br (x2 = (mm_i (-1))) (
      some (.inl (some (.int x4)), h)) (
      some (.inr 0, (h.1, (none, (h.2.2.1 + 1, h.2.2.2 + 6))))))) (
    (mm_br (x4 = x2) (
      some (.inl (some (.int x3)), h)) (
      mm_gR h a0 8 1 fun p_1 =>
        mm_cI [] (cl 60 [.ref p_1, .int x3] h) fun v_3 h_2 =>
        mm_r128_13 E cl n a0 x1 x2 v_3 (x4 + (mm_i 1)) (x5 + (mm_i 1)) h_2)))))) := (rfl)
-- PS.frontier
noncomputable def mm_r129_0 (E : mm_E) (cl : mm_F) (n : Nat) (a0 : Nat) (x1 : Int32) (h : mm_H) : mm_R := mm_run E cl mm_m129 n 0 [some (.ref a0), some (.int x1), none, none, none, none] [] h
noncomputable def mm_r129_29 (E : mm_E) (cl : mm_F) (n : Nat) (a0 : Nat) (x1 : Int32) (x2 : Int32) (x3 : Int32) (x4 : Int32) (o5 : Option Value) (h : mm_H) : mm_R := mm_run E cl mm_m129 n 29 [some (.ref a0), some (.int x1), some (.int x2), some (.int x3), some (.int x4), o5] [] h
noncomputable def mm_r129_64 (E : mm_E) (cl : mm_F) (n : Nat) (a0 : Nat) (x1 : Int32) (x2 : Int32) (x3 : Int32) (x4 : Int32) (x5 : Int32) (h : mm_H) : mm_R := mm_run E cl mm_m129 n 64 [some (.ref a0), some (.int x1), some (.int x2), some (.int x3), some (.int x4), some (.int x5)] [] h
set_option maxRecDepth 20000 in
set_option maxHeartbeats 4000000 in
theorem mm_e129_0 (E : mm_E) (cl : mm_F) (n : Nat) (a0 : Nat) (x1 : Int32) (h : mm_H) :
  mm_r129_0 E cl (n + 1) a0 x1 h =
  (mm_br (x1 < (mm_i (-1))) (
  some (.inr 0, (h.1, (none, (h.2.2.1 + 1, h.2.2.2 + 6))))) (
  (mm_br (x1 ≤ (mm_i 20)) (
    mm_r129_29 E cl n a0 x1 (mm_i 0) (mm_i (-1)) (mm_i 0) none h) (
    some (.inr 0, (h.1, (none, (h.2.2.1 + 1, h.2.2.2 + 6)))))))) := (rfl)
set_option maxRecDepth 20000 in
set_option maxHeartbeats 4000000 in
theorem mm_e129_29 (E : mm_E) (cl : mm_F) (n : Nat) (a0 : Nat) (x1 : Int32) (x2 : Int32) (x3 : Int32) (x4 : Int32) (o5 : Option Value) (h : mm_H) :
  mm_r129_29 E cl (n + 1) a0 x1 x2 x3 x4 o5 h =
  (mm_br ((mm_i 20) < x4) (
  (mm_br (x1 = (mm_i (-1))) (
    some (.inl (some (.int x2)), h)) (
    some (.inr 0, (h.1, (none, (h.2.2.1 + 1, h.2.2.2 + 6))))))) (
  mm_cI [] (cl 144 [.ref a0, .int x4] h) fun v_2 h_1 =>
    (mm_br (v_2 = (mm_i (-1))) (
    mm_r129_29 E cl n a0 x1 x2 x3 (x4 + (mm_i 1)) (some (.int v_2)) h_1) (
    (mm_br (x3 = (mm_i (-1))) (
      mm_r129_64 E cl n a0 x1 x2 v_2 x4 v_2 h_1) (
      (mm_br (x3 ≤ v_2) (
        mm_r129_29 E cl n a0 x1 x2 x3 (x4 + (mm_i 1)) (some (.int v_2)) h_1) (
        mm_r129_64 E cl n a0 x1 x2 v_2 x4 v_2 h_1)))))))) := (rfl)
set_option maxRecDepth 20000 in
set_option maxHeartbeats 4000000 in
theorem mm_e129_64 (E : mm_E) (cl : mm_F) (n : Nat) (a0 : Nat) (x1 : Int32) (x2 : Int32) (x3 : Int32) (x4 : Int32) (x5 : Int32) (h : mm_H) :
  mm_r129_64 E cl (n + 1) a0 x1 x2 x3 x4 x5 h =
  (mm_br (x2 = x1) (
  some (.inl (some (.int x4)), h)) (
  mm_r129_29 E cl n a0 x1 (x2 + (mm_i 1)) x3 (x4 + (mm_i 1)) (some (.int x5)) h)) := (rfl)
-- PS.image
noncomputable def mm_r130_0 (E : mm_E) (cl : mm_F) (n : Nat) (a0 : Nat) (h : mm_H) : mm_R := mm_run E cl mm_m130 n 0 [some (.ref a0)] [] h
set_option maxRecDepth 20000 in
set_option maxHeartbeats 4000000 in
theorem mm_e130_0 (E : mm_E) (cl : mm_F) (n : Nat) (a0 : Nat) (h : mm_H) :
  mm_r130_0 E cl (n + 1) a0 h =
  mm_gR h a0 8 3 fun p_1 =>
  mm_gR h a0 8 1 fun p_2 =>
  mm_cV [] (cl 34 [.ref p_1, .ref p_2] h) fun h_3 =>
  (mm_bz (mm_i 1) (
  mm_pF h_3 a0 8 12 (.int (mm_i 1)) fun h_4 =>
  some (.inl none, h_4))) := (rfl)
-- PS.back
noncomputable def mm_r131_0 (E : mm_E) (cl : mm_F) (n : Nat) (a0 : Nat) (h : mm_H) : mm_R := mm_run E cl mm_m131 n 0 [some (.ref a0)] [] h
set_option maxRecDepth 20000 in
set_option maxHeartbeats 4000000 in
theorem mm_e131_0 (E : mm_E) (cl : mm_F) (n : Nat) (a0 : Nat) (h : mm_H) :
  mm_r131_0 E cl (n + 1) a0 h =
  mm_gI h a0 8 12 fun v_1 =>
  (mm_br (v_1 = (mm_i 0)) (
  (mm_bz (mm_i 0) (some (.inl (some (.int (mm_i 0))), h)))) (
  mm_gR h a0 8 1 fun p_2 =>
    mm_gR h a0 8 3 fun p_3 =>
    mm_cV [] (cl 34 [.ref p_2, .ref p_3] h) fun h_4 =>
    mm_gR h_4 a0 8 4 fun p_5 =>
    mm_cV [] (cl 3 [.ref p_5] h_4) fun h_6 =>
    (mm_bz (mm_i 1) (some (.inl (some (.int (mm_i 1))), h_6))))) := (rfl)
-- PS.isStage
noncomputable def mm_r132_0 (E : mm_E) (cl : mm_F) (n : Nat) (a0 : Nat) (x1 : Int32) (h : mm_H) : mm_R := mm_run E cl mm_m132 n 0 [some (.ref a0), some (.int x1)] [] h
set_option maxRecDepth 20000 in
set_option maxHeartbeats 4000000 in
theorem mm_e132_0 (E : mm_E) (cl : mm_F) (n : Nat) (a0 : Nat) (x1 : Int32) (h : mm_H) :
  mm_r132_0 E cl (n + 1) a0 x1 h =
  (mm_br (x1 < (mm_i 0)) (
  (mm_bz (mm_i 0) (some (.inl (some (.int (mm_i 0))), h)))) (
  mm_gR h a0 8 1 fun p_1 =>
    mm_gI h p_1 3 10 fun v_2 =>
    (mm_br (v_2 ≤ x1) (
    (mm_bz (mm_i 0) (some (.inl (some (.int (mm_i 0))), h)))) (
    (mm_bz (mm_i 1) (some (.inl (some (.int (mm_i 1))), h))))))) := (rfl)
-- PS.checkStage
noncomputable def mm_r133_0 (E : mm_E) (cl : mm_F) (n : Nat) (a0 : Nat) (x1 : Int32) (h : mm_H) : mm_R := mm_run E cl mm_m133 n 0 [some (.ref a0), some (.int x1)] [] h
set_option maxRecDepth 20000 in
set_option maxHeartbeats 4000000 in
theorem mm_e133_0 (E : mm_E) (cl : mm_F) (n : Nat) (a0 : Nat) (x1 : Int32) (h : mm_H) :
  mm_r133_0 E cl (n + 1) a0 x1 h =
  mm_cI [] (cl 132 [.ref a0, .int x1] h) fun v_2 h_1 =>
  (mm_br (v_2 = (mm_i 0)) (
  some (.inr 0, (h_1.1, (none, (h_1.2.2.1 + 1, h_1.2.2.2 + 6))))) (
  some (.inl none, h_1))) := (rfl)
