/-! EQUATIONS of the runs, part 5 (by program: wip/whole/genpure.py) -/
-- Mod.clear
noncomputable def mm_r177_0 (E : mm_E) (cl : mm_F) (n : Nat) (a0 : Nat) (x1 : Int32) (h : mm_H) : mm_R := mm_run E cl mm_m177 n 0 [some (.ref a0), some (.int x1), none] [] h
noncomputable def mm_r177_9 (E : mm_E) (cl : mm_F) (n : Nat) (a0 : Nat) (x1 : Int32) (x2 : Int32) (h : mm_H) : mm_R := mm_run E cl mm_m177 n 9 [some (.ref a0), some (.int x1), some (.int x2)] [] h
set_option maxRecDepth 20000 in
set_option maxHeartbeats 4000000 in
theorem mm_e177_0 (E : mm_E) (cl : mm_F) (n : Nat) (a0 : Nat) (x1 : Int32) (h : mm_H) :
  mm_r177_0 E cl (n + 1) a0 x1 h =
  mm_gR h a0 9 5 fun p_1 =>
  mm_wI h p_1 x1 (mm_i 0) fun h_2 =>
  mm_r177_9 E cl n a0 x1 (mm_i 0) h_2 := (rfl)
set_option maxRecDepth 20000 in
set_option maxHeartbeats 4000000 in
theorem mm_e177_9 (E : mm_E) (cl : mm_F) (n : Nat) (a0 : Nat) (x1 : Int32) (x2 : Int32) (h : mm_H) :
  mm_r177_9 E cl (n + 1) a0 x1 x2 h =
  (mm_br ((mm_i 40) ≤ x2) (
  some (.inl none, h)) (
  mm_gR h a0 9 6 fun p_1 =>
    mm_wI h p_1 (((mm_i 40) * x1) + x2) (mm_i 0) fun h_2 =>
    mm_r177_9 E cl n a0 x1 (x2 + (mm_i 1)) h_2)) := (rfl)
-- Mod.undo
noncomputable def mm_r178_0 (E : mm_E) (cl : mm_F) (n : Nat) (a0 : Nat) (h : mm_H) : mm_R := mm_run E cl mm_m178 n 0 [some (.ref a0), none] [] h
noncomputable def mm_r178_26 (E : mm_E) (cl : mm_F) (n : Nat) (a0 : Nat) (x1 : Int32) (h : mm_H) : mm_R := mm_run E cl mm_m178 n 26 [some (.ref a0), some (.int x1)] [] h
noncomputable def mm_r178_65 (E : mm_E) (cl : mm_F) (n : Nat) (a0 : Nat) (x1 : Int32) (h : mm_H) : mm_R := mm_run E cl mm_m178 n 65 [some (.ref a0), some (.int x1)] [] h
set_option maxRecDepth 20000 in
set_option maxHeartbeats 4000000 in
theorem mm_e178_0 (E : mm_E) (cl : mm_F) (n : Nat) (a0 : Nat) (h : mm_H) :
  mm_r178_0 E cl (n + 1) a0 h =
  mm_pF h a0 9 0 (.int (mm_i 0)) fun h_1 =>
  mm_gI h_1 a0 9 4 fun v_2 =>
  (mm_br (v_2 = (mm_i 0)) (
  some (.inl (some (.int (mm_i (-1)))), h_1)) (
  mm_gI h_1 a0 9 4 fun v_3 =>
    mm_pF h_1 a0 9 4 (.int (v_3 - (mm_i 1))) fun h_4 =>
    mm_r178_26 E cl n a0 (mm_i 0) h_4)) := (rfl)
set_option maxRecDepth 20000 in
set_option maxHeartbeats 4000000 in
theorem mm_e178_26 (E : mm_E) (cl : mm_F) (n : Nat) (a0 : Nat) (x1 : Int32) (h : mm_H) :
  mm_r178_26 E cl (n + 1) a0 x1 h =
  (mm_br ((mm_i 190) ≤ x1) (
  mm_cI [] (cl 150 [.ref a0] h) fun v_2 h_1 =>
    mm_r178_65 E cl n a0 v_2 h_1) (
  mm_gR h a0 9 1 fun p_3 =>
    mm_gR h a0 9 3 fun p_4 =>
    mm_gI h a0 9 4 fun v_5 =>
    mm_rI E h p_4 (((mm_i 190) * v_5) + x1) fun v_6 =>
    mm_wI h p_3 x1 v_6 fun h_7 =>
    mm_r178_26 E cl n a0 (x1 + (mm_i 1)) h_7)) := (rfl)
set_option maxRecDepth 20000 in
set_option maxHeartbeats 4000000 in
theorem mm_e178_65 (E : mm_E) (cl : mm_F) (n : Nat) (a0 : Nat) (x1 : Int32) (h : mm_H) :
  mm_r178_65 E cl (n + 1) a0 x1 h =
  (mm_br ((mm_i 12) ≤ x1) (
  mm_gI h a0 9 4 fun v_1 =>
    some (.inl (some (.int v_1)), h)) (
  mm_cV [] (cl 177 [.ref a0, .int x1] h) fun h_2 =>
    mm_r178_65 E cl n a0 (x1 + (mm_i 1)) h_2)) := (rfl)
-- Mod.waitOf
noncomputable def mm_r179_0 (E : mm_E) (cl : mm_F) (n : Nat) (a0 : Nat) (x1 : Int32) (h : mm_H) : mm_R := mm_run E cl mm_m179 n 0 [some (.ref a0), some (.int x1), none, none] [] h
noncomputable def mm_r179_9 (E : mm_E) (cl : mm_F) (n : Nat) (a0 : Nat) (x1 : Int32) (x2 : Int32) (x3 : Int32) (h : mm_H) : mm_R := mm_run E cl mm_m179 n 9 [some (.ref a0), some (.int x1), some (.int x2), some (.int x3)] [] h
set_option maxRecDepth 20000 in
set_option maxHeartbeats 4000000 in
theorem mm_e179_0 (E : mm_E) (cl : mm_F) (n : Nat) (a0 : Nat) (x1 : Int32) (h : mm_H) :
  mm_r179_0 E cl (n + 1) a0 x1 h =
  mm_cI [] (cl 152 [.ref a0, .int x1, .int (mm_i 2)] h) fun v_2 h_1 =>
  mm_r179_9 E cl n a0 x1 v_2 (mm_i 0) h_1 := (rfl)
set_option maxRecDepth 20000 in
set_option maxHeartbeats 4000000 in
theorem mm_e179_9 (E : mm_E) (cl : mm_F) (n : Nat) (a0 : Nat) (x1 : Int32) (x2 : Int32) (x3 : Int32) (h : mm_H) :
  mm_r179_9 E cl (n + 1) a0 x1 x2 x3 h =
  mm_cI [] (cl 150 [.ref a0] h) fun v_2 h_1 =>
  (mm_br (v_2 ≤ x3) (
  some (.inl (some (.int x2)), h_1)) (
  mm_cI [] (cl 157 [.ref a0, .int x1] h_1) fun v_4 h_3 =>
    mm_cI [] (cl 159 [.int v_4, .int x3] h_3) fun v_6 h_5 =>
    (mm_br (v_6 = (mm_i 0)) (
    mm_r179_9 E cl n a0 x1 x2 (x3 + (mm_i 1)) h_5) (
    mm_gR h_5 a0 9 5 fun p_7 =>
      mm_rI E h_5 p_7 x3 fun v_8 =>
      mm_r179_9 E cl n a0 x1 (mm_mx x2 v_8) (x3 + (mm_i 1)) h_5)))) := (rfl)
-- Mod.netOf
noncomputable def mm_r180_0 (E : mm_E) (cl : mm_F) (n : Nat) (a0 : Nat) (x1 : Int32) (h : mm_H) : mm_R := mm_run E cl mm_m180 n 0 [some (.ref a0), some (.int x1)] [] h
set_option maxRecDepth 20000 in
set_option maxHeartbeats 4000000 in
theorem mm_e180_0 (E : mm_E) (cl : mm_F) (n : Nat) (a0 : Nat) (x1 : Int32) (h : mm_H) :
  mm_r180_0 E cl (n + 1) a0 x1 h =
  mm_cI [] (cl 179 [.ref a0, .int x1] h) fun v_2 h_1 =>
  mm_cI [] (cl 152 [.ref a0, .int x1, .int (mm_i 0)] h_1) fun v_4 h_3 =>
  mm_gR h_3 a0 9 5 fun p_5 =>
  mm_rI E h_3 p_5 x1 fun v_6 =>
  some (.inl (some (.int ((v_2 + v_4) - v_6))), h_3) := (rfl)
-- Mod.isRight
noncomputable def mm_r181_0 (E : mm_E) (cl : mm_F) (n : Nat) (a0 : Nat) (x1 : Int32) (h : mm_H) : mm_R := mm_run E cl mm_m181 n 0 [some (.ref a0), some (.int x1)] [] h
noncomputable def mm_r181_35 (E : mm_E) (cl : mm_F) (n : Nat) (a0 : Nat) (x1 : Int32) (h : mm_H) : mm_R := mm_run E cl mm_m181 n 35 [some (.ref a0), some (.int x1)] [] h
set_option maxRecDepth 20000 in
set_option maxHeartbeats 4000000 in
theorem mm_e181_0 (E : mm_E) (cl : mm_F) (n : Nat) (a0 : Nat) (x1 : Int32) (h : mm_H) :
  mm_r181_0 E cl (n + 1) a0 x1 h =
  mm_cI [] (cl 180 [.ref a0, .int x1] h) fun v_2 h_1 =>
  (mm_br (v_2 < (mm_i 0)) (
  (mm_bz (mm_i 0) (some (.inl (some (.int (mm_i 0))), h_1)))) (
  mm_cI [] (cl 152 [.ref a0, .int x1, .int (mm_i 5)] h_1) fun v_4 h_3 =>
    (mm_br (v_4 = (mm_i (-1))) (
    mm_r181_35 E cl n a0 x1 h_3) (
    mm_gR h_3 a0 9 5 fun p_5 =>
      mm_rI E h_3 p_5 x1 fun v_6 =>
      mm_cI [] (cl 152 [.ref a0, .int x1, .int (mm_i 5)] h_3) fun v_8 h_7 =>
      (mm_br (v_6 ≤ v_8) (
      mm_r181_35 E cl n a0 x1 h_7) (
      (mm_bz (mm_i 0) (some (.inl (some (.int (mm_i 0))), h_7))))))))) := (rfl)
set_option maxRecDepth 20000 in
set_option maxHeartbeats 4000000 in
theorem mm_e181_35 (E : mm_E) (cl : mm_F) (n : Nat) (a0 : Nat) (x1 : Int32) (h : mm_H) :
  mm_r181_35 E cl (n + 1) a0 x1 h =
  mm_cI [] (cl 152 [.ref a0, .int x1, .int (mm_i 6)] h) fun v_2 h_1 =>
  (mm_br (v_2 = (mm_i (-1))) (
  (mm_bz (mm_i 1) (some (.inl (some (.int (mm_i 1))), h_1)))) (
  mm_gR h_1 a0 9 5 fun p_3 =>
    mm_rI E h_1 p_3 x1 fun v_4 =>
    mm_cI [] (cl 152 [.ref a0, .int x1, .int (mm_i 6)] h_1) fun v_6 h_5 =>
    (mm_br (v_4 = v_6) (
    (mm_bz (mm_i 1) (some (.inl (some (.int (mm_i 1))), h_5)))) (
    (mm_bz (mm_i 0) (some (.inl (some (.int (mm_i 0))), h_5))))))) := (rfl)
-- Mod.firstWrong
noncomputable def mm_r182_0 (E : mm_E) (cl : mm_F) (n : Nat) (a0 : Nat) (h : mm_H) : mm_R := mm_run E cl mm_m182 n 0 [some (.ref a0), none] [] h
noncomputable def mm_r182_2 (E : mm_E) (cl : mm_F) (n : Nat) (a0 : Nat) (x1 : Int32) (h : mm_H) : mm_R := mm_run E cl mm_m182 n 2 [some (.ref a0), some (.int x1)] [] h
set_option maxRecDepth 20000 in
set_option maxHeartbeats 4000000 in
theorem mm_e182_0 (E : mm_E) (cl : mm_F) (n : Nat) (a0 : Nat) (h : mm_H) :
  mm_r182_0 E cl (n + 1) a0 h =
  mm_r182_2 E cl n a0 (mm_i 0) h := (rfl)
set_option maxRecDepth 20000 in
set_option maxHeartbeats 4000000 in
theorem mm_e182_2 (E : mm_E) (cl : mm_F) (n : Nat) (a0 : Nat) (x1 : Int32) (h : mm_H) :
  mm_r182_2 E cl (n + 1) a0 x1 h =
  mm_cI [] (cl 150 [.ref a0] h) fun v_2 h_1 =>
  (mm_br (v_2 ≤ x1) (
  some (.inl (some (.int (mm_i (-1)))), h_1)) (
  mm_cI [] (cl 181 [.ref a0, .int x1] h_1) fun v_4 h_3 =>
    (mm_br (v_4 = (mm_i 0)) (
    some (.inl (some (.int x1)), h_3)) (
    mm_r182_2 E cl n a0 (x1 + (mm_i 1)) h_3)))) := (rfl)
-- Mod.heldOf
noncomputable def mm_r183_0 (E : mm_E) (cl : mm_F) (n : Nat) (a0 : Nat) (x1 : Int32) (h : mm_H) : mm_R := mm_run E cl mm_m183 n 0 [some (.ref a0), some (.int x1)] [] h
set_option maxRecDepth 20000 in
set_option maxHeartbeats 4000000 in
theorem mm_e183_0 (E : mm_E) (cl : mm_F) (n : Nat) (a0 : Nat) (x1 : Int32) (h : mm_H) :
  mm_r183_0 E cl (n + 1) a0 x1 h =
  mm_cI [] (cl 180 [.ref a0, .int x1] h) fun v_2 h_1 =>
  (mm_br ((mm_i 0) ≤ v_2) (
  mm_cI [] (cl 180 [.ref a0, .int x1] h_1) fun v_4 h_3 =>
    mm_cI [] (cl 165 [.ref a0, .int x1, .int v_4] h_3) fun v_6 h_5 =>
    some (.inl (some (.int v_6)), h_5)) (
  some (.inl (some (.int (mm_i (-1)))), h_1))) := (rfl)
-- Mod.priceNow
noncomputable def mm_r184_0 (E : mm_E) (cl : mm_F) (n : Nat) (a0 : Nat) (h : mm_H) : mm_R := mm_run E cl mm_m184 n 0 [some (.ref a0), none, none] [] h
noncomputable def mm_r184_4 (E : mm_E) (cl : mm_F) (n : Nat) (a0 : Nat) (x1 : Int32) (x2 : Int32) (h : mm_H) : mm_R := mm_run E cl mm_m184 n 4 [some (.ref a0), some (.int x1), some (.int x2)] [] h
set_option maxRecDepth 20000 in
set_option maxHeartbeats 4000000 in
theorem mm_e184_0 (E : mm_E) (cl : mm_F) (n : Nat) (a0 : Nat) (h : mm_H) :
  mm_r184_0 E cl (n + 1) a0 h =
  mm_r184_4 E cl n a0 (mm_i 0) (mm_i 0) h := (rfl)
set_option maxRecDepth 20000 in
set_option maxHeartbeats 4000000 in
theorem mm_e184_4 (E : mm_E) (cl : mm_F) (n : Nat) (a0 : Nat) (x1 : Int32) (x2 : Int32) (h : mm_H) :
  mm_r184_4 E cl (n + 1) a0 x1 x2 h =
  mm_cI [] (cl 150 [.ref a0] h) fun v_2 h_1 =>
  (mm_br (v_2 ≤ x2) (
  some (.inl (some (.int x1)), h_1)) (
  mm_cI [] (cl 152 [.ref a0, .int x2, .int (mm_i 1)] h_1) fun v_4 h_3 =>
    mm_cI [] (cl 183 [.ref a0, .int x2] h_3) fun v_6 h_5 =>
    mm_r184_4 E cl n a0 (x1 + (v_4 * v_6)) (x2 + (mm_i 1)) h_5)) := (rfl)
-- Mod.planned
noncomputable def mm_r185_0 (E : mm_E) (cl : mm_F) (n : Nat) (a0 : Nat) (x1 : Int32) (x2 : Int32) (h : mm_H) : mm_R := mm_run E cl mm_m185 n 0 [some (.ref a0), some (.int x1), some (.int x2)] [] h
noncomputable def mm_r185_101 (E : mm_E) (cl : mm_F) (n : Nat) (a0 : Nat) (x1 : Int32) (x2 : Int32) (h : mm_H) : mm_R := mm_run E cl mm_m185 n 101 [some (.ref a0), some (.int x1), some (.int x2)] [] h
noncomputable def mm_r185_124 (E : mm_E) (cl : mm_F) (n : Nat) (a0 : Nat) (x1 : Int32) (x2 : Int32) (h : mm_H) : mm_R := mm_run E cl mm_m185 n 124 [some (.ref a0), some (.int x1), some (.int x2)] [] h
set_option maxRecDepth 20000 in
set_option maxHeartbeats 4000000 in
theorem mm_e185_0 (E : mm_E) (cl : mm_F) (n : Nat) (a0 : Nat) (x1 : Int32) (x2 : Int32) (h : mm_H) :
  mm_r185_0 E cl (n + 1) a0 x1 x2 h =
  mm_pF h a0 9 0 (.int (mm_i 0)) fun h_1 =>
  mm_cI [] (cl 151 [.ref a0, .int x1] h_1) fun v_3 h_2 =>
  (mm_br (v_3 = (mm_i 0)) (
  mm_cI [] (cl 146 [.ref a0, .int (mm_i 1)] h_2) fun v_5 h_4 =>
    some (.inl (some (.int v_5)), h_4)) (
  mm_cI [] (cl 147 [.int x2, .int (mm_i 0), .int (mm_i 5)] h_2) fun v_7 h_6 =>
    (mm_br (v_7 = (mm_i 0)) (
    mm_cI [] (cl 146 [.ref a0, .int (mm_i 1)] h_6) fun v_21 h_20 =>
      some (.inl (some (.int v_21)), h_20)) (
    (mm_br (x2 = (mm_i 0)) (
      mm_gR h_6 a0 9 5 fun p_18 =>
        mm_rI E h_6 p_18 x1 fun v_19 =>
        some (.inl (some (.int v_19)), h_6)) (
      (mm_br (x2 = (mm_i 1)) (
      mm_cI [] (cl 179 [.ref a0, .int x1] h_6) fun v_17 h_16 =>
        some (.inl (some (.int v_17)), h_16)) (
      (mm_br (x2 = (mm_i 2)) (
      mm_cI [] (cl 180 [.ref a0, .int x1] h_6) fun v_15 h_14 =>
        some (.inl (some (.int v_15)), h_14)) (
      (mm_br (x2 = (mm_i 3)) (
      mm_cI [] (cl 183 [.ref a0, .int x1] h_6) fun v_13 h_12 =>
        some (.inl (some (.int v_13)), h_12)) (
      (mm_br (x2 = (mm_i 4)) (
      mm_cI [] (cl 180 [.ref a0, .int x1] h_6) fun v_11 h_10 =>
        (mm_br ((mm_i 0) ≤ v_11) (
        mm_r185_101 E cl n a0 x1 x2 h_10) (
        some (.inl (some (.int (mm_i (-1)))), h_10)))) (
      mm_cI [] (cl 180 [.ref a0, .int x1] h_6) fun v_9 h_8 =>
      (mm_br ((mm_i 0) ≤ v_9) (
      mm_r185_124 E cl n a0 x1 x2 h_8) (
      some (.inl (some (.int (mm_i (-1)))), h_8))))))))))))))))) := (rfl)
set_option maxRecDepth 20000 in
set_option maxHeartbeats 4000000 in
theorem mm_e185_101 (E : mm_E) (cl : mm_F) (n : Nat) (a0 : Nat) (x1 : Int32) (x2 : Int32) (h : mm_H) :
  mm_r185_101 E cl (n + 1) a0 x1 x2 h =
  mm_cI [] (cl 180 [.ref a0, .int x1] h) fun v_2 h_1 =>
  mm_cI [] (cl 166 [.ref a0, .int x1, .int v_2] h_1) fun v_4 h_3 =>
  some (.inl (some (.int v_4)), h_3) := (rfl)
set_option maxRecDepth 20000 in
set_option maxHeartbeats 4000000 in
theorem mm_e185_124 (E : mm_E) (cl : mm_F) (n : Nat) (a0 : Nat) (x1 : Int32) (x2 : Int32) (h : mm_H) :
  mm_r185_124 E cl (n + 1) a0 x1 x2 h =
  mm_cI [] (cl 152 [.ref a0, .int x1, .int (mm_i 1)] h) fun v_2 h_1 =>
  mm_cI [] (cl 183 [.ref a0, .int x1] h_1) fun v_4 h_3 =>
  some (.inl (some (.int (v_2 * v_4))), h_3) := (rfl)
-- Mod.plan
noncomputable def mm_r186_0 (E : mm_E) (cl : mm_F) (n : Nat) (a0 : Nat) (x1 : Int32) (h : mm_H) : mm_R := mm_run E cl mm_m186 n 0 [some (.ref a0), some (.int x1), none, none] [] h
noncomputable def mm_r186_58 (E : mm_E) (cl : mm_F) (n : Nat) (a0 : Nat) (x1 : Int32) (x2 : Int32) (x3 : Int32) (h : mm_H) : mm_R := mm_run E cl mm_m186 n 58 [some (.ref a0), some (.int x1), some (.int x2), some (.int x3)] [] h
set_option maxRecDepth 20000 in
set_option maxHeartbeats 4000000 in
theorem mm_e186_0 (E : mm_E) (cl : mm_F) (n : Nat) (a0 : Nat) (x1 : Int32) (h : mm_H) :
  mm_r186_0 E cl (n + 1) a0 x1 h =
  mm_pF h a0 9 0 (.int (mm_i 0)) fun h_1 =>
  (mm_br (x1 = (mm_i 0)) (
  mm_cI [] (cl 182 [.ref a0] h_1) fun v_7 h_6 =>
    (mm_br (v_7 = (mm_i (-1))) (
    mm_cI [] (cl 184 [.ref a0] h_6) fun v_9 h_8 =>
      some (.inl (some (.int v_9)), h_8)) (
    some (.inl (some (.int (mm_i (-1)))), h_6)))) (
  (mm_br (x1 = (mm_i 1)) (
  mm_cI [] (cl 182 [.ref a0] h_1) fun v_5 h_4 =>
    some (.inl (some (.int v_5)), h_4)) (
  (mm_br (x1 = (mm_i 2)) (
  mm_r186_58 E cl n a0 x1 (mm_i 0) (mm_i 0) h_1) (
  mm_cI [] (cl 146 [.ref a0, .int (mm_i 1)] h_1) fun v_3 h_2 =>
  some (.inl (some (.int v_3)), h_2))))))) := (rfl)
set_option maxRecDepth 20000 in
set_option maxHeartbeats 4000000 in
theorem mm_e186_58 (E : mm_E) (cl : mm_F) (n : Nat) (a0 : Nat) (x1 : Int32) (x2 : Int32) (x3 : Int32) (h : mm_H) :
  mm_r186_58 E cl (n + 1) a0 x1 x2 x3 h =
  mm_cI [] (cl 150 [.ref a0] h) fun v_2 h_1 =>
  (mm_br (v_2 ≤ x3) (
  some (.inl (some (.int x2)), h_1)) (
  mm_cI [] (cl 183 [.ref a0, .int x3] h_1) fun v_4 h_3 =>
    (mm_br (v_4 ≤ (mm_i 0)) (
    mm_r186_58 E cl n a0 x1 (x2 ||| (mm_i 0)) (x3 + (mm_i 1)) h_3) (
    mm_r186_58 E cl n a0 x1 (x2 ||| ((mm_i 1) <<< (x3 &&& 31))) (x3 + (mm_i 1)) h_3)))) := (rfl)
-- Mod.promise
noncomputable def mm_r187_0 (E : mm_E) (cl : mm_F) (n : Nat) (a0 : Nat) (x1 : Int32) (x2 : Int32) (h : mm_H) : mm_R := mm_run E cl mm_m187 n 0 [some (.ref a0), some (.int x1), some (.int x2), none] [] h
noncomputable def mm_r187_28 (E : mm_E) (cl : mm_F) (n : Nat) (a0 : Nat) (x1 : Int32) (x2 : Int32) (o3 : Option Value) (b0 : Nat) (s1 : Int32) (h : mm_H) : mm_R := mm_run E cl mm_m187 n 28 [some (.ref a0), some (.int x1), some (.int x2), o3] [.int s1, .ref b0] h
set_option maxRecDepth 20000 in
set_option maxHeartbeats 4000000 in
theorem mm_e187_0 (E : mm_E) (cl : mm_F) (n : Nat) (a0 : Nat) (x1 : Int32) (x2 : Int32) (h : mm_H) :
  mm_r187_0 E cl (n + 1) a0 x1 x2 h =
  mm_cI [] (cl 151 [.ref a0, .int x1] h) fun v_2 h_1 =>
  (mm_br (v_2 = (mm_i 0)) (
  mm_r187_28 E cl n a0 x1 x2 none a0 (mm_i 1) h_1) (
  mm_cI [] (cl 147 [.int x2, .int (mm_i 0), .int (mm_i 119)] h_1) fun v_4 h_3 =>
    (mm_br (v_4 = (mm_i 0)) (
    mm_r187_28 E cl n a0 x1 x2 none a0 (mm_i 2) h_3) (
    mm_r187_28 E cl n a0 x1 x2 none a0 (mm_i 0) h_3)))) := (rfl)
set_option maxRecDepth 20000 in
set_option maxHeartbeats 4000000 in
theorem mm_e187_28 (E : mm_E) (cl : mm_F) (n : Nat) (a0 : Nat) (x1 : Int32) (x2 : Int32) (o3 : Option Value) (b0 : Nat) (s1 : Int32) (h : mm_H) :
  mm_r187_28 E cl (n + 1) a0 x1 x2 o3 b0 s1 h =
  mm_pF h b0 9 0 (.int s1) fun h_1 =>
  mm_gI h_1 a0 9 0 fun v_2 =>
  (mm_br (v_2 ≤ (mm_i 0)) (
  mm_gR h_1 a0 9 5 fun p_3 =>
    mm_rI E h_1 p_3 x1 fun v_4 =>
    mm_gR h_1 a0 9 5 fun p_5 =>
    mm_wI h_1 p_5 x1 x2 fun h_6 =>
    some (.inl (some (.int v_4)), h_6)) (
  some (.inl (some (.int (mm_i 0))), h_1))) := (rfl)
-- Mod.lazy
noncomputable def mm_r188_0 (E : mm_E) (cl : mm_F) (n : Nat) (a0 : Nat) (h : mm_H) : mm_R := mm_run E cl mm_m188 n 0 [some (.ref a0), none, none, none] [] h
noncomputable def mm_r188_2 (E : mm_E) (cl : mm_F) (n : Nat) (a0 : Nat) (x1 : Int32) (o2 : Option Value) (o3 : Option Value) (h : mm_H) : mm_R := mm_run E cl mm_m188 n 2 [some (.ref a0), some (.int x1), o2, o3] [] h
noncomputable def mm_r188_15 (E : mm_E) (cl : mm_F) (n : Nat) (a0 : Nat) (x1 : Int32) (x2 : Int32) (o3 : Option Value) (h : mm_H) : mm_R := mm_run E cl mm_m188 n 15 [some (.ref a0), some (.int x1), some (.int x2), o3] [] h
noncomputable def mm_r188_46 (E : mm_E) (cl : mm_F) (n : Nat) (a0 : Nat) (x1 : Int32) (x2 : Int32) (o3 : Option Value) (h : mm_H) : mm_R := mm_run E cl mm_m188 n 46 [some (.ref a0), some (.int x1), some (.int x2), o3] [] h
noncomputable def mm_r188_80 (E : mm_E) (cl : mm_F) (n : Nat) (a0 : Nat) (x1 : Int32) (x2 : Int32) (x3 : Int32) (h : mm_H) : mm_R := mm_run E cl mm_m188 n 80 [some (.ref a0), some (.int x1), some (.int x2), some (.int x3)] [] h
noncomputable def mm_r188_103 (E : mm_E) (cl : mm_F) (n : Nat) (a0 : Nat) (x1 : Int32) (x2 : Int32) (x3 : Int32) (h : mm_H) : mm_R := mm_run E cl mm_m188 n 103 [some (.ref a0), some (.int x1), some (.int x2), some (.int x3)] [] h
set_option maxRecDepth 20000 in
set_option maxHeartbeats 4000000 in
theorem mm_e188_0 (E : mm_E) (cl : mm_F) (n : Nat) (a0 : Nat) (h : mm_H) :
  mm_r188_0 E cl (n + 1) a0 h =
  mm_r188_2 E cl n a0 (mm_i 0) none none h := (rfl)
set_option maxRecDepth 20000 in
set_option maxHeartbeats 4000000 in
theorem mm_e188_2 (E : mm_E) (cl : mm_F) (n : Nat) (a0 : Nat) (x1 : Int32) (o2 : Option Value) (o3 : Option Value) (h : mm_H) :
  mm_r188_2 E cl (n + 1) a0 x1 o2 o3 h =
  mm_cI [] (cl 160 [.int x1] h) fun v_2 h_1 =>
  mm_cI [] (cl 150 [.ref a0] h_1) fun v_4 h_3 =>
  (mm_br (v_4 ≤ v_2) (
  some (.inl none, h_3)) (
  mm_r188_15 E cl n a0 x1 (mm_i 0) o3 h_3)) := (rfl)
set_option maxRecDepth 20000 in
set_option maxHeartbeats 4000000 in
theorem mm_e188_15 (E : mm_E) (cl : mm_F) (n : Nat) (a0 : Nat) (x1 : Int32) (x2 : Int32) (o3 : Option Value) (h : mm_H) :
  mm_r188_15 E cl (n + 1) a0 x1 x2 o3 h =
  mm_cI [] (cl 150 [.ref a0] h) fun v_2 h_1 =>
  (mm_br (v_2 ≤ x2) (
  mm_r188_2 E cl n a0 x1 (some (.int x2)) o3 h_1) (
  mm_cI [] (cl 159 [.int x1, .int x2] h_1) fun v_4 h_3 =>
    (mm_br (v_4 = (mm_i 0)) (
    mm_cI [] (cl 157 [.ref a0, .int x2] h_3) fun v_6 h_5 =>
      (mm_br ((v_6 &&& (x1 ^^^ (mm_i (-1)))) = (mm_i 0)) (
      mm_r188_46 E cl n a0 x1 x2 o3 h_5) (
      mm_r188_15 E cl n a0 x1 (x2 + (mm_i 1)) o3 h_5))) (
    mm_r188_15 E cl n a0 x1 (x2 + (mm_i 1)) o3 h_3)))) := (rfl)
set_option maxRecDepth 20000 in
set_option maxHeartbeats 4000000 in
theorem mm_e188_46 (E : mm_E) (cl : mm_F) (n : Nat) (a0 : Nat) (x1 : Int32) (x2 : Int32) (o3 : Option Value) (h : mm_H) :
  mm_r188_46 E cl (n + 1) a0 x1 x2 o3 h =
  mm_cI [] (cl 179 [.ref a0, .int x2] h) fun v_2 h_1 =>
  mm_cI [] (cl 152 [.ref a0, .int x2, .int (mm_i 0)] h_1) fun v_4 h_3 =>
  mm_cI [] (cl 152 [.ref a0, .int x2, .int (mm_i 5)] h_3) fun v_6 h_5 =>
  (mm_br (v_6 = (mm_i (-1))) (
  mm_r188_80 E cl n a0 x1 x2 (v_2 + v_4) h_5) (
  mm_cI [] (cl 152 [.ref a0, .int x2, .int (mm_i 5)] h_5) fun v_8 h_7 =>
    mm_r188_80 E cl n a0 x1 x2 (mm_mn (v_2 + v_4) v_8) h_7)) := (rfl)
set_option maxRecDepth 20000 in
set_option maxHeartbeats 4000000 in
theorem mm_e188_80 (E : mm_E) (cl : mm_F) (n : Nat) (a0 : Nat) (x1 : Int32) (x2 : Int32) (x3 : Int32) (h : mm_H) :
  mm_r188_80 E cl (n + 1) a0 x1 x2 x3 h =
  mm_cI [] (cl 152 [.ref a0, .int x2, .int (mm_i 6)] h) fun v_2 h_1 =>
  (mm_br (v_2 = (mm_i (-1))) (
  mm_r188_103 E cl n a0 x1 x2 x3 h_1) (
  mm_cI [] (cl 152 [.ref a0, .int x2, .int (mm_i 6)] h_1) fun v_4 h_3 =>
    mm_r188_103 E cl n a0 x1 x2 (mm_mn x3 v_4) h_3)) := (rfl)
set_option maxRecDepth 20000 in
set_option maxHeartbeats 4000000 in
theorem mm_e188_103 (E : mm_E) (cl : mm_F) (n : Nat) (a0 : Nat) (x1 : Int32) (x2 : Int32) (x3 : Int32) (h : mm_H) :
  mm_r188_103 E cl (n + 1) a0 x1 x2 x3 h =
  mm_gR h a0 9 5 fun p_1 =>
  mm_wI h p_1 x2 x3 fun h_2 =>
  mm_r188_15 E cl n a0 (x1 ||| ((mm_i 1) <<< (x2 &&& 31))) (x2 + (mm_i 1)) (some (.int x3)) h_2 := (rfl)
-- Mod.halves
noncomputable def mm_r189_0 (E : mm_E) (cl : mm_F) (n : Nat) (a0 : Nat) (h : mm_H) : mm_R := mm_run E cl mm_m189 n 0 [some (.ref a0), none] [] h
noncomputable def mm_r189_6 (E : mm_E) (cl : mm_F) (n : Nat) (a0 : Nat) (x1 : Int32) (h : mm_H) : mm_R := mm_run E cl mm_m189 n 6 [some (.ref a0), some (.int x1)] [] h
set_option maxRecDepth 20000 in
set_option maxHeartbeats 4000000 in
theorem mm_e189_0 (E : mm_E) (cl : mm_F) (n : Nat) (a0 : Nat) (h : mm_H) :
  mm_r189_0 E cl (n + 1) a0 h =
  mm_cV [] (cl 188 [.ref a0] h) fun h_1 =>
  mm_r189_6 E cl n a0 (mm_i 0) h_1 := (rfl)
set_option maxRecDepth 20000 in
set_option maxHeartbeats 4000000 in
theorem mm_e189_6 (E : mm_E) (cl : mm_F) (n : Nat) (a0 : Nat) (x1 : Int32) (h : mm_H) :
  mm_r189_6 E cl (n + 1) a0 x1 h =
  mm_cI [] (cl 150 [.ref a0] h) fun v_2 h_1 =>
  (mm_br (v_2 ≤ x1) (
  some (.inl none, h_1)) (
  mm_gR h_1 a0 9 5 fun p_3 =>
    mm_cI [] (cl 152 [.ref a0, .int x1, .int (mm_i 6)] h_1) fun v_5 h_4 =>
    (mm_br (v_5 = (mm_i (-1))) (
    mm_gR h_4 a0 9 5 fun p_9 =>
      mm_rI E h_4 p_9 x1 fun v_10 =>
      (mm_nz (mm_i 2) (
      mm_wI h_4 p_3 x1 (v_10 / (mm_i 2)) fun h_11 =>
      mm_r189_6 E cl n a0 (x1 + (mm_i 1)) h_11))) (
    mm_cI [] (cl 152 [.ref a0, .int x1, .int (mm_i 6)] h_4) fun v_7 h_6 =>
      mm_wI h_6 p_3 x1 v_7 fun h_8 =>
      mm_r189_6 E cl n a0 (x1 + (mm_i 1)) h_8)))) := (rfl)
-- Mod.take
noncomputable def mm_r190_0 (E : mm_E) (cl : mm_F) (n : Nat) (a0 : Nat) (x1 : Int32) (h : mm_H) : mm_R := mm_run E cl mm_m190 n 0 [some (.ref a0), some (.int x1), none] [] h
noncomputable def mm_r190_35 (E : mm_E) (cl : mm_F) (n : Nat) (a0 : Nat) (x1 : Int32) (x2 : Int32) (h : mm_H) : mm_R := mm_run E cl mm_m190 n 35 [some (.ref a0), some (.int x1), some (.int x2)] [] h
noncomputable def mm_r190_64 (E : mm_E) (cl : mm_F) (n : Nat) (a0 : Nat) (x1 : Int32) (o2 : Option Value) (h : mm_H) : mm_R := mm_run E cl mm_m190 n 64 [some (.ref a0), some (.int x1), o2] [] h
noncomputable def mm_r190_71 (E : mm_E) (cl : mm_F) (n : Nat) (a0 : Nat) (x1 : Int32) (o2 : Option Value) (h : mm_H) : mm_R := mm_run E cl mm_m190 n 71 [some (.ref a0), some (.int x1), o2] [] h
noncomputable def mm_r190_87 (E : mm_E) (cl : mm_F) (n : Nat) (a0 : Nat) (x1 : Int32) (o2 : Option Value) (h : mm_H) : mm_R := mm_run E cl mm_m190 n 87 [some (.ref a0), some (.int x1), o2] [] h
set_option maxRecDepth 20000 in
set_option maxHeartbeats 4000000 in
theorem mm_e190_0 (E : mm_E) (cl : mm_F) (n : Nat) (a0 : Nat) (x1 : Int32) (h : mm_H) :
  mm_r190_0 E cl (n + 1) a0 x1 h =
  mm_pF h a0 9 0 (.int (mm_i 0)) fun h_1 =>
  mm_cI [] (cl 147 [.int x1, .int (mm_i 0), .int (mm_i 3)] h_1) fun v_3 h_2 =>
  (mm_br (v_3 = (mm_i 0)) (
  some (.inl (some (.int (mm_i (-1)))), h_2)) (
  (mm_br (x1 = (mm_i 2)) (
    mm_cI [] (cl 195 [.ref a0] h_2) fun v_5 h_4 =>
      (mm_br (v_5 = (mm_i (-1))) (
      some (.inl (some (.int (mm_i (-1)))), h_4)) (
      (mm_br (x1 = (mm_i 0)) (
        mm_r190_35 E cl n a0 x1 (mm_i 0) h_4) (
        (mm_br (x1 = (mm_i 1)) (
          mm_r190_64 E cl n a0 x1 none h_4) (
          mm_r190_71 E cl n a0 x1 none h_4))))))) (
    (mm_br (x1 = (mm_i 0)) (
      mm_r190_35 E cl n a0 x1 (mm_i 0) h_2) (
      (mm_br (x1 = (mm_i 1)) (
        mm_r190_64 E cl n a0 x1 none h_2) (
        mm_r190_71 E cl n a0 x1 none h_2)))))))) := (rfl)
set_option maxRecDepth 20000 in
set_option maxHeartbeats 4000000 in
theorem mm_e190_35 (E : mm_E) (cl : mm_F) (n : Nat) (a0 : Nat) (x1 : Int32) (x2 : Int32) (h : mm_H) :
  mm_r190_35 E cl (n + 1) a0 x1 x2 h =
  mm_cI [] (cl 150 [.ref a0] h) fun v_2 h_1 =>
  (mm_br (v_2 ≤ x2) (
  mm_r190_87 E cl n a0 x1 (some (.int x2)) h_1) (
  mm_gR h_1 a0 9 5 fun p_3 =>
    mm_wI h_1 p_3 x2 (mm_i 0) fun h_4 =>
    mm_r190_35 E cl n a0 x1 (x2 + (mm_i 1)) h_4)) := (rfl)
set_option maxRecDepth 20000 in
set_option maxHeartbeats 4000000 in
theorem mm_e190_64 (E : mm_E) (cl : mm_F) (n : Nat) (a0 : Nat) (x1 : Int32) (o2 : Option Value) (h : mm_H) :
  mm_r190_64 E cl (n + 1) a0 x1 o2 h =
  mm_cV [] (cl 188 [.ref a0] h) fun h_1 =>
  mm_r190_87 E cl n a0 x1 o2 h_1 := (rfl)
set_option maxRecDepth 20000 in
set_option maxHeartbeats 4000000 in
theorem mm_e190_71 (E : mm_E) (cl : mm_F) (n : Nat) (a0 : Nat) (x1 : Int32) (o2 : Option Value) (h : mm_H) :
  mm_r190_71 E cl (n + 1) a0 x1 o2 h =
  (mm_br (x1 = (mm_i 2)) (
  mm_cV [] (cl 203 [.ref a0] h) fun h_2 =>
    mm_r190_87 E cl n a0 x1 o2 h_2) (
  mm_cV [] (cl 189 [.ref a0] h) fun h_1 =>
    mm_r190_87 E cl n a0 x1 o2 h_1)) := (rfl)
set_option maxRecDepth 20000 in
set_option maxHeartbeats 4000000 in
theorem mm_e190_87 (E : mm_E) (cl : mm_F) (n : Nat) (a0 : Nat) (x1 : Int32) (o2 : Option Value) (h : mm_H) :
  mm_r190_87 E cl (n + 1) a0 x1 o2 h =
  mm_cI [] (cl 182 [.ref a0] h) fun v_2 h_1 =>
  (mm_br (v_2 = (mm_i (-1))) (
  mm_cI [] (cl 184 [.ref a0] h_1) fun v_4 h_3 =>
    some (.inl (some (.int v_4)), h_3)) (
  some (.inl (some (.int (mm_i (-2)))), h_1))) := (rfl)
-- Mod.plus
noncomputable def mm_r191_0 (E : mm_E) (cl : mm_F) (n : Nat) (x0 : Int32) (x1 : Int32) (h : mm_H) : mm_R := mm_run E cl mm_m191 n 0 [some (.int x0), some (.int x1)] [] h
set_option maxRecDepth 20000 in
set_option maxHeartbeats 4000000 in
theorem mm_e191_0 (E : mm_E) (cl : mm_F) (n : Nat) (x0 : Int32) (x1 : Int32) (h : mm_H) :
  mm_r191_0 E cl (n + 1) x0 x1 h =
  (mm_br ((mm_i 1000000000) ≤ x0) (
  some (.inl (some (.int (mm_i 1000000000))), h)) (
  (mm_br (x1 < (mm_i 1000000000)) (
    some (.inl (some (.int (x0 + x1))), h)) (
    some (.inl (some (.int (mm_i 1000000000))), h))))) := (rfl)
-- Mod.price
noncomputable def mm_r192_0 (E : mm_E) (cl : mm_F) (n : Nat) (a0 : Nat) (x1 : Int32) (x2 : Int32) (h : mm_H) : mm_R := mm_run E cl mm_m192 n 0 [some (.ref a0), some (.int x1), some (.int x2)] [] h
set_option maxRecDepth 20000 in
set_option maxHeartbeats 4000000 in
theorem mm_e192_0 (E : mm_E) (cl : mm_F) (n : Nat) (a0 : Nat) (x1 : Int32) (x2 : Int32) (h : mm_H) :
  mm_r192_0 E cl (n + 1) a0 x1 x2 h =
  mm_cI [] (cl 152 [.ref a0, .int x1, .int (mm_i 1)] h) fun v_2 h_1 =>
  mm_gR h_1 a0 9 14 fun p_3 =>
  mm_rI E h_1 p_3 (((mm_i 240) * x1) + x2) fun v_4 =>
  some (.inl (some (.int (v_2 * v_4))), h_1) := (rfl)
-- Mod.layRoots
noncomputable def mm_r193_0 (E : mm_E) (cl : mm_F) (n : Nat) (a0 : Nat) (h : mm_H) : mm_R := mm_run E cl mm_m193 n 0 [some (.ref a0), none, none, none, none] [] h
noncomputable def mm_r193_7 (E : mm_E) (cl : mm_F) (n : Nat) (a0 : Nat) (x1 : Int32) (o2 : Option Value) (o3 : Option Value) (o4 : Option Value) (h : mm_H) : mm_R := mm_run E cl mm_m193 n 7 [some (.ref a0), some (.int x1), o2, o3, o4] [] h
noncomputable def mm_r193_39 (E : mm_E) (cl : mm_F) (n : Nat) (a0 : Nat) (x1 : Int32) (o2 : Option Value) (o3 : Option Value) (o4 : Option Value) (h : mm_H) : mm_R := mm_run E cl mm_m193 n 39 [some (.ref a0), some (.int x1), o2, o3, o4] [] h
noncomputable def mm_r193_74 (E : mm_E) (cl : mm_F) (n : Nat) (a0 : Nat) (x1 : Int32) (y2 : Int64) (x4 : Int32) (h : mm_H) : mm_R := mm_run E cl mm_m193 n 74 [some (.ref a0), some (.int x1), some (.long y2), none, some (.int x4)] [] h
set_option maxRecDepth 20000 in
set_option maxHeartbeats 4000000 in
theorem mm_e193_0 (E : mm_E) (cl : mm_F) (n : Nat) (a0 : Nat) (h : mm_H) :
  mm_r193_0 E cl (n + 1) a0 h =
  mm_pF h a0 9 15 (.int (mm_i 0)) fun h_1 =>
  mm_r193_7 E cl n a0 (mm_i 0) none none none h_1 := (rfl)
set_option maxRecDepth 20000 in
set_option maxHeartbeats 4000000 in
theorem mm_e193_7 (E : mm_E) (cl : mm_F) (n : Nat) (a0 : Nat) (x1 : Int32) (o2 : Option Value) (o3 : Option Value) (o4 : Option Value) (h : mm_H) :
  mm_r193_7 E cl (n + 1) a0 x1 o2 o3 o4 h =
  mm_cI [] (cl 150 [.ref a0] h) fun v_2 h_1 =>
  (mm_br (v_2 ≤ x1) (
  mm_r193_39 E cl n a0 (mm_i 0) o2 o3 o4 h_1) (
  mm_gI h_1 a0 9 15 fun v_3 =>
    mm_cI [] (cl 163 [.ref a0, .int x1] h_1) fun v_5 h_4 =>
    mm_pF h_4 a0 9 15 (.int (mm_mx v_3 v_5)) fun h_6 =>
    mm_r193_7 E cl n a0 (x1 + (mm_i 1)) o2 o3 o4 h_6)) := (rfl)
set_option maxRecDepth 20000 in
set_option maxHeartbeats 4000000 in
theorem mm_e193_39 (E : mm_E) (cl : mm_F) (n : Nat) (a0 : Nat) (x1 : Int32) (o2 : Option Value) (o3 : Option Value) (o4 : Option Value) (h : mm_H) :
  mm_r193_39 E cl (n + 1) a0 x1 o2 o3 o4 h =
  mm_cI [] (cl 150 [.ref a0] h) fun v_2 h_1 =>
  (mm_br (v_2 ≤ x1) (
  some (.inl none, h_1)) (
  mm_gR h_1 a0 9 1 fun p_3 =>
    mm_rI E h_1 p_3 (mm_i 1) fun v_4 =>
    mm_gR h_1 a0 9 1 fun p_5 =>
    mm_rI E h_1 p_5 (mm_i 1) fun v_6 =>
    mm_cI [] (cl 162 [.ref a0, .int x1, .int (mm_i 4)] h_1) fun v_8 h_7 =>
    mm_r193_74 E cl n a0 x1 (((Int32.toInt64 v_4) * (Int32.toInt64 v_6)) * (Int32.toInt64 v_8)) (mm_i 0) h_7)) := (rfl)
set_option maxRecDepth 20000 in
set_option maxHeartbeats 4000000 in
theorem mm_e193_74 (E : mm_E) (cl : mm_F) (n : Nat) (a0 : Nat) (x1 : Int32) (y2 : Int64) (x4 : Int32) (h : mm_H) :
  mm_r193_74 E cl (n + 1) a0 x1 y2 x4 h =
  mm_gI h a0 9 15 fun v_1 =>
  (mm_br ((v_1 + (mm_i 9)) < x4) (
  mm_r193_39 E cl n a0 (x1 + (mm_i 1)) (some (.long y2)) none (some (.int x4)) h) (
  mm_gR h a0 9 14 fun p_2 =>
    mm_cI [] (cl 164 [.long (y2 * (Int32.toInt64 x4))] h) fun v_4 h_3 =>
    mm_wI h_3 p_2 (((mm_i 240) * x1) + x4) v_4 fun h_5 =>
    mm_r193_74 E cl n a0 x1 y2 (x4 + (mm_i 1)) h_5)) := (rfl)
-- Mod.mayBe
noncomputable def mm_r194_0 (E : mm_E) (cl : mm_F) (n : Nat) (a0 : Nat) (x1 : Int32) (x2 : Int32) (h : mm_H) : mm_R := mm_run E cl mm_m194 n 0 [some (.ref a0), some (.int x1), some (.int x2)] [] h
noncomputable def mm_r194_31 (E : mm_E) (cl : mm_F) (n : Nat) (a0 : Nat) (x1 : Int32) (x2 : Int32) (h : mm_H) : mm_R := mm_run E cl mm_m194 n 31 [some (.ref a0), some (.int x1), some (.int x2)] [] h
set_option maxRecDepth 20000 in
set_option maxHeartbeats 4000000 in
theorem mm_e194_0 (E : mm_E) (cl : mm_F) (n : Nat) (a0 : Nat) (x1 : Int32) (x2 : Int32) (h : mm_H) :
  mm_r194_0 E cl (n + 1) a0 x1 x2 h =
  mm_cI [] (cl 152 [.ref a0, .int x1, .int (mm_i 5)] h) fun v_2 h_1 =>
  (mm_br (v_2 = (mm_i (-1))) (
  mm_cI [] (cl 152 [.ref a0, .int x1, .int (mm_i 6)] h_1) fun v_4 h_3 =>
    (mm_br (v_4 = (mm_i (-1))) (
    (mm_bz (mm_i 1) (some (.inl (some (.int (mm_i 1))), h_3)))) (
    mm_r194_31 E cl n a0 x1 x2 h_3))) (
  mm_cI [] (cl 152 [.ref a0, .int x1, .int (mm_i 5)] h_1) fun v_6 h_5 =>
    (mm_br (v_6 < x2) (
    (mm_bz (mm_i 0) (some (.inl (some (.int (mm_i 0))), h_5)))) (
    mm_cI [] (cl 152 [.ref a0, .int x1, .int (mm_i 6)] h_5) fun v_8 h_7 =>
      (mm_br (v_8 = (mm_i (-1))) (
      (mm_bz (mm_i 1) (some (.inl (some (.int (mm_i 1))), h_7)))) (
      mm_r194_31 E cl n a0 x1 x2 h_7)))))) := (rfl)
set_option maxRecDepth 20000 in
set_option maxHeartbeats 4000000 in
theorem mm_e194_31 (E : mm_E) (cl : mm_F) (n : Nat) (a0 : Nat) (x1 : Int32) (x2 : Int32) (h : mm_H) :
  mm_r194_31 E cl (n + 1) a0 x1 x2 h =
  mm_cI [] (cl 152 [.ref a0, .int x1, .int (mm_i 6)] h) fun v_2 h_1 =>
  (mm_br (x2 = v_2) (
  (mm_bz (mm_i 1) (some (.inl (some (.int (mm_i 1))), h_1)))) (
  (mm_bz (mm_i 0) (some (.inl (some (.int (mm_i 0))), h_1))))) := (rfl)
-- Mod.priceOfBest
noncomputable def mm_r195_0 (E : mm_E) (cl : mm_F) (n : Nat) (a0 : Nat) (h : mm_H) : mm_R := mm_run E cl mm_m195 n 0 [some (.ref a0)] [] h
set_option maxRecDepth 20000 in
set_option maxHeartbeats 4000000 in
theorem mm_e195_0 (E : mm_E) (cl : mm_F) (n : Nat) (a0 : Nat) (h : mm_H) :
  mm_r195_0 E cl (n + 1) a0 h =
  mm_cV [] (cl 193 [.ref a0] h) fun h_1 =>
  mm_cI [] (cl 196 [.ref a0] h_1) fun v_3 h_2 =>
  some (.inl (some (.int v_3)), h_2) := (rfl)
-- Mod.priceByRoots
noncomputable def mm_r196_0 (E : mm_E) (cl : mm_F) (n : Nat) (a0 : Nat) (h : mm_H) : mm_R := mm_run E cl mm_m196 n 0 [some (.ref a0), none, none, none, none, none] [] h
noncomputable def mm_r196_6 (E : mm_E) (cl : mm_F) (n : Nat) (a0 : Nat) (x1 : Int32) (x2 : Int32) (x3 : Int32) (o4 : Option Value) (o5 : Option Value) (h : mm_H) : mm_R := mm_run E cl mm_m196 n 6 [some (.ref a0), some (.int x1), some (.int x2), some (.int x3), o4, o5] [] h
noncomputable def mm_r196_43 (E : mm_E) (cl : mm_F) (n : Nat) (a0 : Nat) (x1 : Int32) (x2 : Int32) (x3 : Int32) (o4 : Option Value) (o5 : Option Value) (h : mm_H) : mm_R := mm_run E cl mm_m196 n 43 [some (.ref a0), some (.int x1), some (.int x2), some (.int x3), o4, o5] [] h
noncomputable def mm_r196_56 (E : mm_E) (cl : mm_F) (n : Nat) (a0 : Nat) (x1 : Int32) (x2 : Int32) (x3 : Int32) (x4 : Int32) (x5 : Int32) (h : mm_H) : mm_R := mm_run E cl mm_m196 n 56 [some (.ref a0), some (.int x1), some (.int x2), some (.int x3), some (.int x4), some (.int x5)] [] h
set_option maxRecDepth 20000 in
set_option maxHeartbeats 4000000 in
theorem mm_e196_0 (E : mm_E) (cl : mm_F) (n : Nat) (a0 : Nat) (h : mm_H) :
  mm_r196_0 E cl (n + 1) a0 h =
  mm_r196_6 E cl n a0 (mm_i 0) (mm_i 0) (mm_i 0) none none h := (rfl)
set_option maxRecDepth 20000 in
set_option maxHeartbeats 4000000 in
theorem mm_e196_6 (E : mm_E) (cl : mm_F) (n : Nat) (a0 : Nat) (x1 : Int32) (x2 : Int32) (x3 : Int32) (o4 : Option Value) (o5 : Option Value) (h : mm_H) :
  mm_r196_6 E cl (n + 1) a0 x1 x2 x3 o4 o5 h =
  mm_cI [] (cl 150 [.ref a0] h) fun v_2 h_1 =>
  (mm_br (v_2 ≤ x3) (
  (mm_br (x2 < (mm_i 1000000000)) (
    some (.inl (some (.int x2)), h_1)) (
    some (.inl (some (.int (mm_i (-1)))), h_1)))) (
  mm_cI [] (cl 159 [.int x1, .int x3] h_1) fun v_4 h_3 =>
    (mm_br (v_4 = (mm_i 0)) (
    mm_gR h_3 a0 9 1 fun p_5 =>
      mm_cI [] (cl 161 [.ref p_5, .int x3] h_3) fun v_7 h_6 =>
      mm_gR h_6 a0 9 7 fun p_8 =>
      mm_wI h_6 p_8 x3 (mm_i (-1)) fun h_9 =>
      mm_r196_43 E cl n a0 (x1 ||| v_7) x2 x3 o4 o5 h_9) (
    mm_r196_6 E cl n a0 x1 x2 (x3 + (mm_i 1)) o4 o5 h_3)))) := (rfl)
set_option maxRecDepth 20000 in
set_option maxHeartbeats 4000000 in
theorem mm_e196_43 (E : mm_E) (cl : mm_F) (n : Nat) (a0 : Nat) (x1 : Int32) (x2 : Int32) (x3 : Int32) (o4 : Option Value) (o5 : Option Value) (h : mm_H) :
  mm_r196_43 E cl (n + 1) a0 x1 x2 x3 o4 o5 h =
  mm_cV [] (cl 197 [.ref a0, .int x3, .int (mm_i 0)] h) fun h_1 =>
  mm_r196_56 E cl n a0 x1 x2 x3 (mm_i 1000000000) (mm_i 0) h_1 := (rfl)
set_option maxRecDepth 20000 in
set_option maxHeartbeats 4000000 in
theorem mm_e196_56 (E : mm_E) (cl : mm_F) (n : Nat) (a0 : Nat) (x1 : Int32) (x2 : Int32) (x3 : Int32) (x4 : Int32) (x5 : Int32) (h : mm_H) :
  mm_r196_56 E cl (n + 1) a0 x1 x2 x3 x4 x5 h =
  mm_gI h a0 9 15 fun v_1 =>
  (mm_br (v_1 < x5) (
  mm_cI [] (cl 191 [.int x2, .int x4] h) fun v_3 h_2 =>
    mm_r196_6 E cl n a0 x1 v_3 (x3 + (mm_i 1)) (some (.int x4)) (some (.int x5)) h_2) (
  mm_gR h a0 9 8 fun p_4 =>
    mm_rI E h p_4 (((mm_i 120) * x3) + x5) fun v_5 =>
    mm_r196_56 E cl n a0 x1 x2 x3 (mm_mn x4 v_5) (x5 + (mm_i 1)) h)) := (rfl)
-- Mod.lookFrom
noncomputable def mm_r197_0 (E : mm_E) (cl : mm_F) (n : Nat) (a0 : Nat) (x1 : Int32) (x2 : Int32) (h : mm_H) : mm_R := mm_run E cl mm_m197 n 0 [some (.ref a0), some (.int x1), some (.int x2), none, none, none, none, none] [] h
noncomputable def mm_r197_17 (E : mm_E) (cl : mm_F) (n : Nat) (a0 : Nat) (x1 : Int32) (x2 : Int32) (x3 : Int32) (x4 : Int32) (o5 : Option Value) (o6 : Option Value) (o7 : Option Value) (h : mm_H) : mm_R := mm_run E cl mm_m197 n 17 [some (.ref a0), some (.int x1), some (.int x2), some (.int x3), some (.int x4), o5, o6, o7] [] h
noncomputable def mm_r197_31 (E : mm_E) (cl : mm_F) (n : Nat) (a0 : Nat) (x1 : Int32) (x2 : Int32) (x3 : Int32) (x4 : Int32) (x5 : Int32) (x6 : Int32) (o7 : Option Value) (h : mm_H) : mm_R := mm_run E cl mm_m197 n 31 [some (.ref a0), some (.int x1), some (.int x2), some (.int x3), some (.int x4), some (.int x5), some (.int x6), o7] [] h
noncomputable def mm_r197_87 (E : mm_E) (cl : mm_F) (n : Nat) (a0 : Nat) (x1 : Int32) (x2 : Int32) (x3 : Int32) (x4 : Int32) (x5 : Int32) (x6 : Int32) (o7 : Option Value) (h : mm_H) : mm_R := mm_run E cl mm_m197 n 87 [some (.ref a0), some (.int x1), some (.int x2), some (.int x3), some (.int x4), some (.int x5), some (.int x6), o7] [] h
noncomputable def mm_r197_122 (E : mm_E) (cl : mm_F) (n : Nat) (a0 : Nat) (x1 : Int32) (x2 : Int32) (x3 : Int32) (x4 : Int32) (x5 : Int32) (x6 : Int32) (x7 : Int32) (h : mm_H) : mm_R := mm_run E cl mm_m197 n 122 [some (.ref a0), some (.int x1), some (.int x2), some (.int x3), some (.int x4), some (.int x5), some (.int x6), some (.int x7)] [] h
noncomputable def mm_r197_217 (E : mm_E) (cl : mm_F) (n : Nat) (a0 : Nat) (x1 : Int32) (x2 : Int32) (x3 : Int32) (x4 : Int32) (x5 : Int32) (x6 : Int32) (o7 : Option Value) (h : mm_H) : mm_R := mm_run E cl mm_m197 n 217 [some (.ref a0), some (.int x1), some (.int x2), some (.int x3), some (.int x4), some (.int x5), some (.int x6), o7] [] h
set_option maxRecDepth 20000 in
set_option maxHeartbeats 4000000 in
theorem mm_e197_0 (E : mm_E) (cl : mm_F) (n : Nat) (a0 : Nat) (x1 : Int32) (x2 : Int32) (h : mm_H) :
  mm_r197_0 E cl (n + 1) a0 x1 x2 h =
  mm_cI [] (cl 157 [.ref a0, .int x1] h) fun v_2 h_1 =>
  mm_r197_17 E cl n a0 x1 x2 (x2 ||| ((mm_i 1) <<< (x1 &&& 31))) (v_2 &&& ((x2 ||| ((mm_i 1) <<< (x1 &&& 31))) ^^^ (mm_i (-1)))) none none none h_1 := (rfl)
set_option maxRecDepth 20000 in
set_option maxHeartbeats 4000000 in
theorem mm_e197_17 (E : mm_E) (cl : mm_F) (n : Nat) (a0 : Nat) (x1 : Int32) (x2 : Int32) (x3 : Int32) (x4 : Int32) (o5 : Option Value) (o6 : Option Value) (o7 : Option Value) (h : mm_H) :
  mm_r197_17 E cl (n + 1) a0 x1 x2 x3 x4 o5 o6 o7 h =
  mm_cI [] (cl 158 [.ref a0, .int x1] h) fun v_2 h_1 =>
  mm_r197_31 E cl n a0 x1 x2 x3 x4 (v_2 &&& (x3 ^^^ (mm_i (-1)))) (mm_i 0) o7 h_1 := (rfl)
set_option maxRecDepth 20000 in
set_option maxHeartbeats 4000000 in
theorem mm_e197_31 (E : mm_E) (cl : mm_F) (n : Nat) (a0 : Nat) (x1 : Int32) (x2 : Int32) (x3 : Int32) (x4 : Int32) (x5 : Int32) (x6 : Int32) (o7 : Option Value) (h : mm_H) :
  mm_r197_31 E cl (n + 1) a0 x1 x2 x3 x4 x5 x6 o7 h =
  mm_cI [] (cl 150 [.ref a0] h) fun v_2 h_1 =>
  (mm_br (v_2 ≤ x6) (
  mm_cV [] (cl 198 [.ref a0, .int x1, .int x4] h_1) fun h_3 =>
    mm_r197_87 E cl n a0 x1 x2 x3 x4 x5 (mm_i 0) o7 h_3) (
  mm_cI [] (cl 159 [.int (x4 ||| x5), .int x6] h_1) fun v_5 h_4 =>
    (mm_br (v_5 = (mm_i 0)) (
    mm_r197_31 E cl n a0 x1 x2 x3 x4 x5 (x6 + (mm_i 1)) o7 h_4) (
    mm_gR h_4 a0 9 7 fun p_6 =>
      mm_wI h_4 p_6 x6 x1 fun h_7 =>
      mm_cV [] (cl 197 [.ref a0, .int x6, .int x3] h_7) fun h_8 =>
      mm_r197_31 E cl n a0 x1 x2 x3 x4 x5 (x6 + (mm_i 1)) o7 h_8)))) := (rfl)
set_option maxRecDepth 20000 in
set_option maxHeartbeats 4000000 in
theorem mm_e197_87 (E : mm_E) (cl : mm_F) (n : Nat) (a0 : Nat) (x1 : Int32) (x2 : Int32) (x3 : Int32) (x4 : Int32) (x5 : Int32) (x6 : Int32) (o7 : Option Value) (h : mm_H) :
  mm_r197_87 E cl (n + 1) a0 x1 x2 x3 x4 x5 x6 o7 h =
  mm_gI h a0 9 15 fun v_1 =>
  (mm_br (v_1 < x6) (
  mm_gR h a0 9 7 fun p_2 =>
    mm_rI E h p_2 x1 fun v_3 =>
    (mm_br (v_3 = (mm_i (-1))) (
    mm_r197_217 E cl n a0 x1 x2 x3 x4 x5 (mm_i 0) o7 h) (
    mm_cI [] (cl 157 [.ref a0, .int x1] h) fun v_5 h_4 =>
      mm_gR h_4 a0 9 7 fun p_6 =>
      mm_rI E h_4 p_6 x1 fun v_7 =>
      mm_cI [] (cl 159 [.int v_5, .int v_7] h_4) fun v_9 h_8 =>
      (mm_br (v_9 = (mm_i 0)) (
      mm_r197_217 E cl n a0 x1 x2 x3 x4 x5 (mm_i 0) o7 h_8) (
      mm_r197_217 E cl n a0 x1 x2 x3 x4 x5 (mm_i 1) o7 h_8))))) (
  mm_gR h a0 9 12 fun p_10 =>
    mm_cI [] (cl 194 [.ref a0, .int x1, .int x6] h) fun v_12 h_11 =>
    (mm_br (v_12 = (mm_i 0)) (
    mm_wI h_11 p_10 x6 (mm_i 1000000000) fun h_13 =>
      mm_r197_122 E cl n a0 x1 x2 x3 x4 x5 x6 (mm_i 0) h_13) (
    mm_wI h_11 p_10 x6 (mm_i 0) fun h_14 =>
      mm_r197_122 E cl n a0 x1 x2 x3 x4 x5 x6 (mm_i 0) h_14)))) := (rfl)
set_option maxRecDepth 20000 in
set_option maxHeartbeats 4000000 in
theorem mm_e197_122 (E : mm_E) (cl : mm_F) (n : Nat) (a0 : Nat) (x1 : Int32) (x2 : Int32) (x3 : Int32) (x4 : Int32) (x5 : Int32) (x6 : Int32) (x7 : Int32) (h : mm_H) :
  mm_r197_122 E cl (n + 1) a0 x1 x2 x3 x4 x5 x6 x7 h =
  mm_cI [] (cl 150 [.ref a0] h) fun v_2 h_1 =>
  (mm_br (v_2 ≤ x7) (
  mm_r197_87 E cl n a0 x1 x2 x3 x4 x5 (x6 + (mm_i 1)) (some (.int x7)) h_1) (
  mm_cI [] (cl 159 [.int x5, .int x7] h_1) fun v_4 h_3 =>
    (mm_br (v_4 = (mm_i 0)) (
    mm_r197_122 E cl n a0 x1 x2 x3 x4 x5 x6 (x7 + (mm_i 1)) h_3) (
    mm_gR h_3 a0 9 12 fun p_5 =>
      mm_gR h_3 a0 9 12 fun p_6 =>
      mm_rI E h_3 p_6 x6 fun v_7 =>
      mm_gR h_3 a0 9 8 fun p_8 =>
      mm_rI E h_3 p_8 (((mm_i 120) * x7) + x6) fun v_9 =>
      mm_cI [] (cl 191 [.int v_7, .int v_9] h_3) fun v_11 h_10 =>
      mm_wI h_10 p_5 x6 v_11 fun h_12 =>
      mm_r197_122 E cl n a0 x1 x2 x3 x4 x5 x6 (x7 + (mm_i 1)) h_12)))) := (rfl)
set_option maxRecDepth 20000 in
set_option maxHeartbeats 4000000 in
theorem mm_e197_217 (E : mm_E) (cl : mm_F) (n : Nat) (a0 : Nat) (x1 : Int32) (x2 : Int32) (x3 : Int32) (x4 : Int32) (x5 : Int32) (x6 : Int32) (o7 : Option Value) (h : mm_H) :
  mm_r197_217 E cl (n + 1) a0 x1 x2 x3 x4 x5 x6 o7 h =
  (mm_br (x6 = (mm_i 0)) (
  mm_cV [] (cl 200 [.ref a0, .int x1] h) fun h_1 =>
    some (.inl none, h_1)) (
  mm_cV [] (cl 201 [.ref a0, .int x1] h) fun h_2 =>
    some (.inl none, h_2))) := (rfl)
-- Mod.layWaits
noncomputable def mm_r198_0 (E : mm_E) (cl : mm_F) (n : Nat) (a0 : Nat) (x1 : Int32) (x2 : Int32) (h : mm_H) : mm_R := mm_run E cl mm_m198 n 0 [some (.ref a0), some (.int x1), some (.int x2), none, none, none] [] h
noncomputable def mm_r198_2 (E : mm_E) (cl : mm_F) (n : Nat) (a0 : Nat) (x1 : Int32) (x2 : Int32) (x3 : Int32) (o4 : Option Value) (o5 : Option Value) (h : mm_H) : mm_R := mm_run E cl mm_m198 n 2 [some (.ref a0), some (.int x1), some (.int x2), some (.int x3), o4, o5] [] h
noncomputable def mm_r198_28 (E : mm_E) (cl : mm_F) (n : Nat) (a0 : Nat) (x1 : Int32) (x2 : Int32) (x3 : Int32) (x4 : Int32) (x5 : Int32) (h : mm_H) : mm_R := mm_run E cl mm_m198 n 28 [some (.ref a0), some (.int x1), some (.int x2), some (.int x3), some (.int x4), some (.int x5)] [] h
noncomputable def mm_r198_56 (E : mm_E) (cl : mm_F) (n : Nat) (a0 : Nat) (x1 : Int32) (x2 : Int32) (x3 : Int32) (x4 : Int32) (x5 : Int32) (h : mm_H) : mm_R := mm_run E cl mm_m198 n 56 [some (.ref a0), some (.int x1), some (.int x2), some (.int x3), some (.int x4), some (.int x5)] [] h
noncomputable def mm_r198_84 (E : mm_E) (cl : mm_F) (n : Nat) (a0 : Nat) (x1 : Int32) (x2 : Int32) (x3 : Int32) (o4 : Option Value) (o5 : Option Value) (h : mm_H) : mm_R := mm_run E cl mm_m198 n 84 [some (.ref a0), some (.int x1), some (.int x2), some (.int x3), o4, o5] [] h
noncomputable def mm_r198_109 (E : mm_E) (cl : mm_F) (n : Nat) (a0 : Nat) (x1 : Int32) (x2 : Int32) (x3 : Int32) (x4 : Int32) (o5 : Option Value) (h : mm_H) : mm_R := mm_run E cl mm_m198 n 109 [some (.ref a0), some (.int x1), some (.int x2), some (.int x3), some (.int x4), o5] [] h
noncomputable def mm_r198_129 (E : mm_E) (cl : mm_F) (n : Nat) (a0 : Nat) (x1 : Int32) (x2 : Int32) (x3 : Int32) (x4 : Int32) (x5 : Int32) (h : mm_H) : mm_R := mm_run E cl mm_m198 n 129 [some (.ref a0), some (.int x1), some (.int x2), some (.int x3), some (.int x4), some (.int x5)] [] h
noncomputable def mm_r198_215 (E : mm_E) (cl : mm_F) (n : Nat) (a0 : Nat) (x1 : Int32) (x2 : Int32) (x3 : Int32) (x4 : Int32) (x5 : Int32) (h : mm_H) : mm_R := mm_run E cl mm_m198 n 215 [some (.ref a0), some (.int x1), some (.int x2), some (.int x3), some (.int x4), some (.int x5)] [] h
set_option maxRecDepth 20000 in
set_option maxHeartbeats 4000000 in
theorem mm_e198_0 (E : mm_E) (cl : mm_F) (n : Nat) (a0 : Nat) (x1 : Int32) (x2 : Int32) (h : mm_H) :
  mm_r198_0 E cl (n + 1) a0 x1 x2 h =
  mm_r198_2 E cl n a0 x1 x2 (mm_i 0) none none h := (rfl)
set_option maxRecDepth 20000 in
set_option maxHeartbeats 4000000 in
theorem mm_e198_2 (E : mm_E) (cl : mm_F) (n : Nat) (a0 : Nat) (x1 : Int32) (x2 : Int32) (x3 : Int32) (o4 : Option Value) (o5 : Option Value) (h : mm_H) :
  mm_r198_2 E cl (n + 1) a0 x1 x2 x3 o4 o5 h =
  mm_cI [] (cl 150 [.ref a0] h) fun v_2 h_1 =>
  (mm_br (v_2 ≤ x3) (
  mm_r198_84 E cl n a0 x1 x2 (mm_i 0) o4 o5 h_1) (
  mm_cI [] (cl 159 [.int x2, .int x3] h_1) fun v_4 h_3 =>
    (mm_br (v_4 = (mm_i 0)) (
    mm_r198_2 E cl n a0 x1 x2 (x3 + (mm_i 1)) o4 o5 h_3) (
    mm_r198_28 E cl n a0 x1 x2 x3 (mm_i 1000000000) (mm_i 0) h_3)))) := (rfl)
set_option maxRecDepth 20000 in
set_option maxHeartbeats 4000000 in
theorem mm_e198_28 (E : mm_E) (cl : mm_F) (n : Nat) (a0 : Nat) (x1 : Int32) (x2 : Int32) (x3 : Int32) (x4 : Int32) (x5 : Int32) (h : mm_H) :
  mm_r198_28 E cl (n + 1) a0 x1 x2 x3 x4 x5 h =
  mm_gI h a0 9 15 fun v_1 =>
  (mm_br (v_1 < x5) (
  mm_r198_2 E cl n a0 x1 x2 (x3 + (mm_i 1)) (some (.int x4)) (some (.int x5)) h) (
  mm_gR h a0 9 8 fun p_2 =>
    mm_rI E h p_2 (((mm_i 120) * x3) + x5) fun v_3 =>
    mm_r198_56 E cl n a0 x1 x2 x3 (mm_mn x4 v_3) x5 h)) := (rfl)
set_option maxRecDepth 20000 in
set_option maxHeartbeats 4000000 in
theorem mm_e198_56 (E : mm_E) (cl : mm_F) (n : Nat) (a0 : Nat) (x1 : Int32) (x2 : Int32) (x3 : Int32) (x4 : Int32) (x5 : Int32) (h : mm_H) :
  mm_r198_56 E cl (n + 1) a0 x1 x2 x3 x4 x5 h =
  mm_gR h a0 9 9 fun p_1 =>
  mm_wI h p_1 (((mm_i 120) * x3) + x5) x4 fun h_2 =>
  mm_r198_28 E cl n a0 x1 x2 x3 x4 (x5 + (mm_i 1)) h_2 := (rfl)
set_option maxRecDepth 20000 in
set_option maxHeartbeats 4000000 in
theorem mm_e198_84 (E : mm_E) (cl : mm_F) (n : Nat) (a0 : Nat) (x1 : Int32) (x2 : Int32) (x3 : Int32) (o4 : Option Value) (o5 : Option Value) (h : mm_H) :
  mm_r198_84 E cl (n + 1) a0 x1 x2 x3 o4 o5 h =
  mm_gI h a0 9 15 fun v_1 =>
  (mm_br (v_1 < x3) (
  some (.inl none, h)) (
  mm_cI [] (cl 152 [.ref a0, .int x1, .int (mm_i 2)] h) fun v_3 h_2 =>
    (mm_br (x3 < v_3) (
    mm_r198_109 E cl n a0 x1 x2 x3 (mm_i 0) o5 h_2) (
    mm_r198_109 E cl n a0 x1 x2 x3 (mm_i 1) o5 h_2)))) := (rfl)
set_option maxRecDepth 20000 in
set_option maxHeartbeats 4000000 in
theorem mm_e198_109 (E : mm_E) (cl : mm_F) (n : Nat) (a0 : Nat) (x1 : Int32) (x2 : Int32) (x3 : Int32) (x4 : Int32) (o5 : Option Value) (h : mm_H) :
  mm_r198_109 E cl (n + 1) a0 x1 x2 x3 x4 o5 h =
  mm_gR h a0 9 11 fun p_1 =>
  (mm_br (x4 = (mm_i 0)) (
  mm_wI h p_1 x3 (mm_i 1000000000) fun h_2 =>
    mm_r198_129 E cl n a0 x1 x2 x3 x4 (mm_i 0) h_2) (
  mm_wI h p_1 x3 (mm_i 0) fun h_3 =>
    mm_r198_129 E cl n a0 x1 x2 x3 x4 (mm_i 0) h_3)) := (rfl)
set_option maxRecDepth 20000 in
set_option maxHeartbeats 4000000 in
theorem mm_e198_129 (E : mm_E) (cl : mm_F) (n : Nat) (a0 : Nat) (x1 : Int32) (x2 : Int32) (x3 : Int32) (x4 : Int32) (x5 : Int32) (h : mm_H) :
  mm_r198_129 E cl (n + 1) a0 x1 x2 x3 x4 x5 h =
  mm_cI [] (cl 150 [.ref a0] h) fun v_2 h_1 =>
  (mm_br (v_2 ≤ x5) (
  mm_gR h_1 a0 9 10 fun p_3 =>
    mm_cI [] (cl 152 [.ref a0, .int x1, .int (mm_i 2)] h_1) fun v_5 h_4 =>
    (mm_br (x3 = v_5) (
    mm_gR h_4 a0 9 11 fun p_7 =>
      mm_rI E h_4 p_7 x3 fun v_8 =>
      mm_wI h_4 p_3 x3 v_8 fun h_9 =>
      mm_r198_215 E cl n a0 x1 x2 x3 x4 (mm_i 0) h_9) (
    mm_wI h_4 p_3 x3 (mm_i 1000000000) fun h_6 =>
      mm_r198_215 E cl n a0 x1 x2 x3 x4 (mm_i 0) h_6))) (
  (mm_br (x4 = (mm_i 0)) (
    mm_gR h_1 a0 9 10 fun p_10 =>
      mm_cI [] (cl 152 [.ref a0, .int x1, .int (mm_i 2)] h_1) fun v_12 h_11 =>
      (mm_br (x3 = v_12) (
      mm_gR h_11 a0 9 11 fun p_14 =>
        mm_rI E h_11 p_14 x3 fun v_15 =>
        mm_wI h_11 p_10 x3 v_15 fun h_16 =>
        mm_r198_215 E cl n a0 x1 x2 x3 x4 (mm_i 0) h_16) (
      mm_wI h_11 p_10 x3 (mm_i 1000000000) fun h_13 =>
        mm_r198_215 E cl n a0 x1 x2 x3 x4 (mm_i 0) h_13))) (
    mm_cI [] (cl 159 [.int x2, .int x5] h_1) fun v_18 h_17 =>
      (mm_br (v_18 = (mm_i 0)) (
      mm_r198_129 E cl n a0 x1 x2 x3 x4 (x5 + (mm_i 1)) h_17) (
      mm_gR h_17 a0 9 11 fun p_19 =>
        mm_gR h_17 a0 9 11 fun p_20 =>
        mm_rI E h_17 p_20 x3 fun v_21 =>
        mm_gR h_17 a0 9 9 fun p_22 =>
        mm_rI E h_17 p_22 (((mm_i 120) * x5) + x3) fun v_23 =>
        mm_cI [] (cl 191 [.int v_21, .int v_23] h_17) fun v_25 h_24 =>
        mm_wI h_24 p_19 x3 v_25 fun h_26 =>
        mm_r198_129 E cl n a0 x1 x2 x3 x4 (x5 + (mm_i 1)) h_26)))))) := (rfl)
set_option maxRecDepth 20000 in
set_option maxHeartbeats 4000000 in
theorem mm_e198_215 (E : mm_E) (cl : mm_F) (n : Nat) (a0 : Nat) (x1 : Int32) (x2 : Int32) (x3 : Int32) (x4 : Int32) (x5 : Int32) (h : mm_H) :
  mm_r198_215 E cl (n + 1) a0 x1 x2 x3 x4 x5 h =
  mm_cI [] (cl 150 [.ref a0] h) fun v_2 h_1 =>
  (mm_br (v_2 ≤ x5) (
  mm_r198_84 E cl n a0 x1 x2 (x3 + (mm_i 1)) (some (.int x4)) (some (.int x5)) h_1) (
  (mm_br (x4 = (mm_i 0)) (
    mm_r198_84 E cl n a0 x1 x2 (x3 + (mm_i 1)) (some (.int x4)) (some (.int x5)) h_1) (
    mm_cI [] (cl 159 [.int x2, .int x5] h_1) fun v_4 h_3 =>
      (mm_br (v_4 = (mm_i 0)) (
      mm_r198_215 E cl n a0 x1 x2 x3 x4 (x5 + (mm_i 1)) h_3) (
      mm_gR h_3 a0 9 10 fun p_5 =>
        mm_gR h_3 a0 9 10 fun p_6 =>
        mm_rI E h_3 p_6 x3 fun v_7 =>
        mm_cI [] (cl 199 [.ref a0, .int x2, .int x5, .int x3] h_3) fun v_9 h_8 =>
        mm_wI h_8 p_5 x3 (mm_mn v_7 v_9) fun h_10 =>
        mm_r198_215 E cl n a0 x1 x2 x3 x4 (x5 + (mm_i 1)) h_10)))))) := (rfl)
-- Mod.withOneAt
noncomputable def mm_r199_0 (E : mm_E) (cl : mm_F) (n : Nat) (a0 : Nat) (x1 : Int32) (x2 : Int32) (x3 : Int32) (h : mm_H) : mm_R := mm_run E cl mm_m199 n 0 [some (.ref a0), some (.int x1), some (.int x2), some (.int x3), none, none] [] h
noncomputable def mm_r199_16 (E : mm_E) (cl : mm_F) (n : Nat) (a0 : Nat) (x1 : Int32) (x2 : Int32) (x3 : Int32) (x4 : Int32) (x5 : Int32) (h : mm_H) : mm_R := mm_run E cl mm_m199 n 16 [some (.ref a0), some (.int x1), some (.int x2), some (.int x3), some (.int x4), some (.int x5)] [] h
noncomputable def mm_r199_40 (E : mm_E) (cl : mm_F) (n : Nat) (a0 : Nat) (x1 : Int32) (x2 : Int32) (x3 : Int32) (x4 : Int32) (x5 : Int32) (h : mm_H) : mm_R := mm_run E cl mm_m199 n 40 [some (.ref a0), some (.int x1), some (.int x2), some (.int x3), some (.int x4), some (.int x5)] [] h
set_option maxRecDepth 20000 in
set_option maxHeartbeats 4000000 in
theorem mm_e199_0 (E : mm_E) (cl : mm_F) (n : Nat) (a0 : Nat) (x1 : Int32) (x2 : Int32) (x3 : Int32) (h : mm_H) :
  mm_r199_0 E cl (n + 1) a0 x1 x2 x3 h =
  mm_gR h a0 9 8 fun p_1 =>
  mm_rI E h p_1 (((mm_i 120) * x2) + x3) fun v_2 =>
  mm_r199_16 E cl n a0 x1 x2 x3 v_2 (mm_i 0) h := (rfl)
set_option maxRecDepth 20000 in
set_option maxHeartbeats 4000000 in
theorem mm_e199_16 (E : mm_E) (cl : mm_F) (n : Nat) (a0 : Nat) (x1 : Int32) (x2 : Int32) (x3 : Int32) (x4 : Int32) (x5 : Int32) (h : mm_H) :
  mm_r199_16 E cl (n + 1) a0 x1 x2 x3 x4 x5 h =
  mm_cI [] (cl 150 [.ref a0] h) fun v_2 h_1 =>
  (mm_br (v_2 ≤ x5) (
  some (.inl (some (.int x4)), h_1)) (
  (mm_br (x5 = x2) (
    mm_r199_16 E cl n a0 x1 x2 x3 x4 (x5 + (mm_i 1)) h_1) (
    mm_cI [] (cl 159 [.int x1, .int x5] h_1) fun v_4 h_3 =>
      (mm_br (v_4 = (mm_i 0)) (
      mm_r199_16 E cl n a0 x1 x2 x3 x4 (x5 + (mm_i 1)) h_3) (
      mm_r199_40 E cl n a0 x1 x2 x3 x4 x5 h_3)))))) := (rfl)
set_option maxRecDepth 20000 in
set_option maxHeartbeats 4000000 in
theorem mm_e199_40 (E : mm_E) (cl : mm_F) (n : Nat) (a0 : Nat) (x1 : Int32) (x2 : Int32) (x3 : Int32) (x4 : Int32) (x5 : Int32) (h : mm_H) :
  mm_r199_40 E cl (n + 1) a0 x1 x2 x3 x4 x5 h =
  mm_gR h a0 9 9 fun p_1 =>
  mm_rI E h p_1 (((mm_i 120) * x5) + x3) fun v_2 =>
  mm_cI [] (cl 191 [.int x4, .int v_2] h) fun v_4 h_3 =>
  mm_r199_16 E cl n a0 x1 x2 x3 v_4 (x5 + (mm_i 1)) h_3 := (rfl)
-- Mod.byOwnTimes
noncomputable def mm_r200_0 (E : mm_E) (cl : mm_F) (n : Nat) (a0 : Nat) (x1 : Int32) (h : mm_H) : mm_R := mm_run E cl mm_m200 n 0 [some (.ref a0), some (.int x1), none, none, none, none] [] h
noncomputable def mm_r200_2 (E : mm_E) (cl : mm_F) (n : Nat) (a0 : Nat) (x1 : Int32) (x2 : Int32) (o3 : Option Value) (o4 : Option Value) (o5 : Option Value) (h : mm_H) : mm_R := mm_run E cl mm_m200 n 2 [some (.ref a0), some (.int x1), some (.int x2), o3, o4, o5] [] h
noncomputable def mm_r200_16 (E : mm_E) (cl : mm_F) (n : Nat) (a0 : Nat) (x1 : Int32) (x2 : Int32) (x3 : Int32) (x4 : Int32) (o5 : Option Value) (h : mm_H) : mm_R := mm_run E cl mm_m200 n 16 [some (.ref a0), some (.int x1), some (.int x2), some (.int x3), some (.int x4), o5] [] h
noncomputable def mm_r200_54 (E : mm_E) (cl : mm_F) (n : Nat) (a0 : Nat) (x1 : Int32) (x2 : Int32) (x3 : Int32) (x4 : Int32) (x5 : Int32) (h : mm_H) : mm_R := mm_run E cl mm_m200 n 54 [some (.ref a0), some (.int x1), some (.int x2), some (.int x3), some (.int x4), some (.int x5)] [] h
set_option maxRecDepth 20000 in
set_option maxHeartbeats 4000000 in
theorem mm_e200_0 (E : mm_E) (cl : mm_F) (n : Nat) (a0 : Nat) (x1 : Int32) (h : mm_H) :
  mm_r200_0 E cl (n + 1) a0 x1 h =
  mm_r200_2 E cl n a0 x1 (mm_i 0) none none none h := (rfl)
set_option maxRecDepth 20000 in
set_option maxHeartbeats 4000000 in
theorem mm_e200_2 (E : mm_E) (cl : mm_F) (n : Nat) (a0 : Nat) (x1 : Int32) (x2 : Int32) (o3 : Option Value) (o4 : Option Value) (o5 : Option Value) (h : mm_H) :
  mm_r200_2 E cl (n + 1) a0 x1 x2 o3 o4 o5 h =
  mm_gI h a0 9 15 fun v_1 =>
  (mm_br (v_1 < x2) (
  some (.inl none, h)) (
  mm_r200_16 E cl n a0 x1 x2 (mm_i 1000000000) (mm_i 0) o5 h)) := (rfl)
set_option maxRecDepth 20000 in
set_option maxHeartbeats 4000000 in
theorem mm_e200_16 (E : mm_E) (cl : mm_F) (n : Nat) (a0 : Nat) (x1 : Int32) (x2 : Int32) (x3 : Int32) (x4 : Int32) (o5 : Option Value) (h : mm_H) :
  mm_r200_16 E cl (n + 1) a0 x1 x2 x3 x4 o5 h =
  mm_gI h a0 9 15 fun v_1 =>
  (mm_br (v_1 < x4) (
  mm_gR h a0 9 8 fun p_2 =>
    mm_wI h p_2 (((mm_i 120) * x1) + x2) x3 fun h_3 =>
    mm_r200_2 E cl n a0 x1 (x2 + (mm_i 1)) (some (.int x3)) (some (.int x4)) o5 h_3) (
  mm_gR h a0 9 12 fun p_4 =>
    mm_rI E h p_4 x2 fun v_5 =>
    (mm_br ((mm_i 1000000000) ≤ v_5) (
    mm_gR h a0 9 8 fun p_6 =>
      mm_wI h p_6 (((mm_i 120) * x1) + x2) x3 fun h_7 =>
      mm_r200_2 E cl n a0 x1 (x2 + (mm_i 1)) (some (.int x3)) (some (.int x4)) o5 h_7) (
    mm_cI [] (cl 152 [.ref a0, .int x1, .int (mm_i 0)] h) fun v_9 h_8 =>
      (mm_br (((x4 + v_9) - x2) < (mm_i 0)) (
      mm_r200_16 E cl n a0 x1 x2 x3 (x4 + (mm_i 1)) (some (.int ((x4 + v_9) - x2))) h_8) (
      mm_r200_54 E cl n a0 x1 x2 x3 x4 ((x4 + v_9) - x2) h_8)))))) := (rfl)
set_option maxRecDepth 20000 in
set_option maxHeartbeats 4000000 in
theorem mm_e200_54 (E : mm_E) (cl : mm_F) (n : Nat) (a0 : Nat) (x1 : Int32) (x2 : Int32) (x3 : Int32) (x4 : Int32) (x5 : Int32) (h : mm_H) :
  mm_r200_54 E cl (n + 1) a0 x1 x2 x3 x4 x5 h =
  mm_gR h a0 9 10 fun p_1 =>
  mm_rI E h p_1 x4 fun v_2 =>
  (mm_br (v_2 < (mm_i 1000000000)) (
  mm_gR h a0 9 10 fun p_3 =>
    mm_rI E h p_3 x4 fun v_4 =>
    mm_gR h a0 9 12 fun p_5 =>
    mm_rI E h p_5 x2 fun v_6 =>
    mm_cI [] (cl 191 [.int v_4, .int v_6] h) fun v_8 h_7 =>
    mm_cI [] (cl 192 [.ref a0, .int x1, .int x5] h_7) fun v_10 h_9 =>
    mm_cI [] (cl 191 [.int v_8, .int v_10] h_9) fun v_12 h_11 =>
    mm_r200_16 E cl n a0 x1 x2 (mm_mn x3 v_12) (x4 + (mm_i 1)) (some (.int x5)) h_11) (
  mm_r200_16 E cl n a0 x1 x2 x3 (x4 + (mm_i 1)) (some (.int x5)) h)) := (rfl)
-- Mod.bySupplier
noncomputable def mm_r201_0 (E : mm_E) (cl : mm_F) (n : Nat) (a0 : Nat) (x1 : Int32) (h : mm_H) : mm_R := mm_run E cl mm_m201 n 0 [some (.ref a0), some (.int x1), none, none, none] [] h
noncomputable def mm_r201_2 (E : mm_E) (cl : mm_F) (n : Nat) (a0 : Nat) (x1 : Int32) (x2 : Int32) (o3 : Option Value) (o4 : Option Value) (h : mm_H) : mm_R := mm_run E cl mm_m201 n 2 [some (.ref a0), some (.int x1), some (.int x2), o3, o4] [] h
noncomputable def mm_r201_20 (E : mm_E) (cl : mm_F) (n : Nat) (a0 : Nat) (x1 : Int32) (x2 : Int32) (x3 : Int32) (o4 : Option Value) (h : mm_H) : mm_R := mm_run E cl mm_m201 n 20 [some (.ref a0), some (.int x1), some (.int x2), some (.int x3), o4] [] h
noncomputable def mm_r201_45 (E : mm_E) (cl : mm_F) (n : Nat) (a0 : Nat) (x1 : Int32) (x2 : Int32) (x3 : Int32) (x4 : Int32) (h : mm_H) : mm_R := mm_run E cl mm_m201 n 45 [some (.ref a0), some (.int x1), some (.int x2), some (.int x3), some (.int x4)] [] h
noncomputable def mm_r201_59 (E : mm_E) (cl : mm_F) (n : Nat) (a0 : Nat) (x1 : Int32) (x2 : Int32) (x3 : Int32) (x4 : Int32) (h : mm_H) : mm_R := mm_run E cl mm_m201 n 59 [some (.ref a0), some (.int x1), some (.int x2), some (.int x3), some (.int x4)] [] h
noncomputable def mm_r201_104 (E : mm_E) (cl : mm_F) (n : Nat) (a0 : Nat) (x1 : Int32) (x2 : Int32) (o3 : Option Value) (o4 : Option Value) (h : mm_H) : mm_R := mm_run E cl mm_m201 n 104 [some (.ref a0), some (.int x1), some (.int x2), o3, o4] [] h
noncomputable def mm_r201_133 (E : mm_E) (cl : mm_F) (n : Nat) (a0 : Nat) (x1 : Int32) (x2 : Int32) (x3 : Int32) (x4 : Int32) (h : mm_H) : mm_R := mm_run E cl mm_m201 n 133 [some (.ref a0), some (.int x1), some (.int x2), some (.int x3), some (.int x4)] [] h
set_option maxRecDepth 20000 in
set_option maxHeartbeats 4000000 in
theorem mm_e201_0 (E : mm_E) (cl : mm_F) (n : Nat) (a0 : Nat) (x1 : Int32) (h : mm_H) :
  mm_r201_0 E cl (n + 1) a0 x1 h =
  mm_r201_2 E cl n a0 x1 (mm_i 0) none none h := (rfl)
set_option maxRecDepth 20000 in
set_option maxHeartbeats 4000000 in
theorem mm_e201_2 (E : mm_E) (cl : mm_F) (n : Nat) (a0 : Nat) (x1 : Int32) (x2 : Int32) (o3 : Option Value) (o4 : Option Value) (h : mm_H) :
  mm_r201_2 E cl (n + 1) a0 x1 x2 o3 o4 h =
  mm_gI h a0 9 15 fun v_1 =>
  (mm_br (v_1 < x2) (
  mm_r201_104 E cl n a0 x1 (mm_i 0) o3 o4 h) (
  mm_gR h a0 9 13 fun p_2 =>
    mm_wI h p_2 x2 (mm_i 1000000000) fun h_3 =>
    mm_r201_20 E cl n a0 x1 x2 (mm_i 0) o4 h_3)) := (rfl)
set_option maxRecDepth 20000 in
set_option maxHeartbeats 4000000 in
theorem mm_e201_20 (E : mm_E) (cl : mm_F) (n : Nat) (a0 : Nat) (x1 : Int32) (x2 : Int32) (x3 : Int32) (o4 : Option Value) (h : mm_H) :
  mm_r201_20 E cl (n + 1) a0 x1 x2 x3 o4 h =
  mm_gI h a0 9 15 fun v_1 =>
  (mm_br (v_1 < x3) (
  mm_r201_2 E cl n a0 x1 (x2 + (mm_i 1)) (some (.int x3)) o4 h) (
  mm_cI [] (cl 152 [.ref a0, .int x1, .int (mm_i 0)] h) fun v_3 h_2 =>
    (mm_br (((x2 + v_3) - x3) < (mm_i 0)) (
    mm_r201_20 E cl n a0 x1 x2 (x3 + (mm_i 1)) (some (.int ((x2 + v_3) - x3))) h_2) (
    mm_r201_45 E cl n a0 x1 x2 x3 ((x2 + v_3) - x3) h_2)))) := (rfl)
set_option maxRecDepth 20000 in
set_option maxHeartbeats 4000000 in
theorem mm_e201_45 (E : mm_E) (cl : mm_F) (n : Nat) (a0 : Nat) (x1 : Int32) (x2 : Int32) (x3 : Int32) (x4 : Int32) (h : mm_H) :
  mm_r201_45 E cl (n + 1) a0 x1 x2 x3 x4 h =
  mm_gR h a0 9 12 fun p_1 =>
  mm_rI E h p_1 x3 fun v_2 =>
  (mm_br (v_2 < (mm_i 1000000000)) (
  mm_r201_59 E cl n a0 x1 x2 x3 x4 h) (
  mm_r201_20 E cl n a0 x1 x2 (x3 + (mm_i 1)) (some (.int x4)) h)) := (rfl)
set_option maxRecDepth 20000 in
set_option maxHeartbeats 4000000 in
theorem mm_e201_59 (E : mm_E) (cl : mm_F) (n : Nat) (a0 : Nat) (x1 : Int32) (x2 : Int32) (x3 : Int32) (x4 : Int32) (h : mm_H) :
  mm_r201_59 E cl (n + 1) a0 x1 x2 x3 x4 h =
  mm_gR h a0 9 13 fun p_1 =>
  mm_gR h a0 9 13 fun p_2 =>
  mm_rI E h p_2 x2 fun v_3 =>
  mm_gR h a0 9 12 fun p_4 =>
  mm_rI E h p_4 x3 fun v_5 =>
  mm_cI [] (cl 192 [.ref a0, .int x1, .int x4] h) fun v_7 h_6 =>
  mm_cI [] (cl 191 [.int v_5, .int v_7] h_6) fun v_9 h_8 =>
  mm_wI h_8 p_1 x2 (mm_mn v_3 v_9) fun h_10 =>
  mm_r201_20 E cl n a0 x1 x2 (x3 + (mm_i 1)) (some (.int x4)) h_10 := (rfl)
set_option maxRecDepth 20000 in
set_option maxHeartbeats 4000000 in
theorem mm_e201_104 (E : mm_E) (cl : mm_F) (n : Nat) (a0 : Nat) (x1 : Int32) (x2 : Int32) (o3 : Option Value) (o4 : Option Value) (h : mm_H) :
  mm_r201_104 E cl (n + 1) a0 x1 x2 o3 o4 h =
  mm_gI h a0 9 15 fun v_1 =>
  (mm_br (v_1 < x2) (
  some (.inl none, h)) (
  mm_gR h a0 9 11 fun p_2 =>
    mm_rI E h p_2 x2 fun v_3 =>
    mm_gR h a0 9 13 fun p_4 =>
    mm_rI E h p_4 x2 fun v_5 =>
    mm_cI [] (cl 191 [.int v_3, .int v_5] h) fun v_7 h_6 =>
    mm_r201_133 E cl n a0 x1 x2 v_7 (x2 + (mm_i 1)) h_6)) := (rfl)
set_option maxRecDepth 20000 in
set_option maxHeartbeats 4000000 in
theorem mm_e201_133 (E : mm_E) (cl : mm_F) (n : Nat) (a0 : Nat) (x1 : Int32) (x2 : Int32) (x3 : Int32) (x4 : Int32) (h : mm_H) :
  mm_r201_133 E cl (n + 1) a0 x1 x2 x3 x4 h =
  mm_gI h a0 9 15 fun v_1 =>
  (mm_br (v_1 < x4) (
  mm_gR h a0 9 8 fun p_2 =>
    mm_cI [] (cl 152 [.ref a0, .int x1, .int (mm_i 2)] h) fun v_4 h_3 =>
    (mm_br (v_4 ≤ x2) (
    mm_wI h_3 p_2 (((mm_i 120) * x1) + x2) x3 fun h_5 =>
      mm_r201_104 E cl n a0 x1 (x2 + (mm_i 1)) (some (.int x3)) (some (.int x4)) h_5) (
    mm_cI [] (cl 152 [.ref a0, .int x1, .int (mm_i 2)] h_3) fun v_7 h_6 =>
      mm_cI [] (cl 202 [.ref a0, .int v_7] h_6) fun v_9 h_8 =>
      mm_wI h_8 p_2 (((mm_i 120) * x1) + x2) v_9 fun h_10 =>
      mm_r201_104 E cl n a0 x1 (x2 + (mm_i 1)) (some (.int x3)) (some (.int x4)) h_10))) (
  mm_gR h a0 9 10 fun p_11 =>
    mm_rI E h p_11 x4 fun v_12 =>
    mm_gR h a0 9 13 fun p_13 =>
    mm_rI E h p_13 x4 fun v_14 =>
    mm_cI [] (cl 191 [.int v_12, .int v_14] h) fun v_16 h_15 =>
    mm_r201_133 E cl n a0 x1 x2 (mm_mn x3 v_16) (x4 + (mm_i 1)) h_15)) := (rfl)
