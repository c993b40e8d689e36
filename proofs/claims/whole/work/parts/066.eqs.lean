/-! EQUATIONS of the runs, part 4 (by program: wip/whole/genpure.py) -/
-- PS.checkWhat
noncomputable def mm_r134_0 (E : mm_E) (cl : mm_F) (n : Nat) (x0 : Int32) (x1 : Int32) (h : mm_H) : mm_R := mm_run E cl mm_m134 n 0 [some (.int x0), some (.int x1)] [] h
set_option maxRecDepth 20000 in
set_option maxHeartbeats 4000000 in
theorem mm_e134_0 (E : mm_E) (cl : mm_F) (n : Nat) (x0 : Int32) (x1 : Int32) (h : mm_H) :
  mm_r134_0 E cl (n + 1) x0 x1 h =
  (mm_br (x0 < (mm_i 0)) (
  some (.inr 0, (h.1, (none, (h.2.2.1 + 1, h.2.2.2 + 6))))) (
  (mm_br (x0 < x1) (
    some (.inl none, h)) (
    some (.inr 0, (h.1, (none, (h.2.2.1 + 1, h.2.2.2 + 6)))))))) := (rfl)
-- PS.checkDay
noncomputable def mm_r135_0 (E : mm_E) (cl : mm_F) (n : Nat) (x0 : Int32) (h : mm_H) : mm_R := mm_run E cl mm_m135 n 0 [some (.int x0)] [] h
set_option maxRecDepth 20000 in
set_option maxHeartbeats 4000000 in
theorem mm_e135_0 (E : mm_E) (cl : mm_F) (n : Nat) (x0 : Int32) (h : mm_H) :
  mm_r135_0 E cl (n + 1) x0 h =
  (mm_br (x0 < (mm_i 0)) (
  some (.inr 0, (h.1, (none, (h.2.2.1 + 1, h.2.2.2 + 6))))) (
  (mm_br (x0 < (mm_i 40)) (
    some (.inl none, h)) (
    some (.inr 0, (h.1, (none, (h.2.2.1 + 1, h.2.2.2 + 6)))))))) := (rfl)
-- PS.checkTime
noncomputable def mm_r136_0 (E : mm_E) (cl : mm_F) (n : Nat) (x0 : Int32) (h : mm_H) : mm_R := mm_run E cl mm_m136 n 0 [some (.int x0)] [] h
set_option maxRecDepth 20000 in
set_option maxHeartbeats 4000000 in
theorem mm_e136_0 (E : mm_E) (cl : mm_F) (n : Nat) (x0 : Int32) (h : mm_H) :
  mm_r136_0 E cl (n + 1) x0 h =
  (mm_br (x0 < (mm_i 0)) (
  some (.inr 1, (h.1, (none, (h.2.2.1 + 1, h.2.2.2 + 6))))) (
  (mm_br (x0 < (mm_i 120)) (
    some (.inl none, h)) (
    some (.inr 1, (h.1, (none, (h.2.2.1 + 1, h.2.2.2 + 6)))))))) := (rfl)
-- PS.fits
noncomputable def mm_r137_0 (E : mm_E) (cl : mm_F) (n : Nat) (x0 : Int32) (x1 : Int32) (h : mm_H) : mm_R := mm_run E cl mm_m137 n 0 [some (.int x0), some (.int x1), none] [] h
noncomputable def mm_r137_16 (E : mm_E) (cl : mm_F) (n : Nat) (x0 : Int32) (x1 : Int32) (o2 : Option Value) (s0 : Int32) (h : mm_H) : mm_R := mm_run E cl mm_m137 n 16 [some (.int x0), some (.int x1), o2] [.int s0] h
set_option maxRecDepth 20000 in
set_option maxHeartbeats 4000000 in
theorem mm_e137_0 (E : mm_E) (cl : mm_F) (n : Nat) (x0 : Int32) (x1 : Int32) (h : mm_H) :
  mm_r137_0 E cl (n + 1) x0 x1 h =
  (mm_br (x0 = (mm_i 5)) (
  mm_r137_16 E cl n x0 x1 none (mm_i (-1)) h) (
  (mm_br (x0 = (mm_i 6)) (
    mm_r137_16 E cl n x0 x1 none (mm_i (-1)) h) (
    mm_r137_16 E cl n x0 x1 none (mm_i 0) h)))) := (rfl)
set_option maxRecDepth 20000 in
set_option maxHeartbeats 4000000 in
theorem mm_e137_16 (E : mm_E) (cl : mm_F) (n : Nat) (x0 : Int32) (x1 : Int32) (o2 : Option Value) (s0 : Int32) (h : mm_H) :
  mm_r137_16 E cl (n + 1) x0 x1 o2 s0 h =
  (mm_br (x0 < (mm_i 0)) (
  (mm_bz (mm_i 0) (some (.inl (some (.int (mm_i 0))), h)))) (
  mm_ln E h E.2.1 fun v_1 =>
    (mm_br (v_1 ≤ x0) (
    (mm_bz (mm_i 0) (some (.inl (some (.int (mm_i 0))), h)))) (
    (mm_br (x1 < s0) (
      (mm_bz (mm_i 0) (some (.inl (some (.int (mm_i 0))), h)))) (
      mm_rI E h E.2.1 x0 fun v_2 =>
        (mm_br (v_2 < x1) (
        (mm_bz (mm_i 0) (some (.inl (some (.int (mm_i 0))), h)))) (
        (mm_bz (mm_i 1) (some (.inl (some (.int (mm_i 1))), h))))))))))) := (rfl)
-- PS.endReading
noncomputable def mm_r138_0 (E : mm_E) (cl : mm_F) (n : Nat) (a0 : Nat) (x1 : Int32) (h : mm_H) : mm_R := mm_run E cl mm_m138 n 0 [some (.ref a0), some (.int x1)] [] h
set_option maxRecDepth 20000 in
set_option maxHeartbeats 4000000 in
theorem mm_e138_0 (E : mm_E) (cl : mm_F) (n : Nat) (a0 : Nat) (x1 : Int32) (h : mm_H) :
  mm_r138_0 E cl (n + 1) a0 x1 h =
  (mm_br (x1 = (mm_i 0)) (
  mm_pF h a0 8 13 (.int (mm_i (-1))) fun h_6 =>
    mm_gR h_6 a0 8 0 fun p_7 =>
    mm_pF h_6 p_7 7 1 (.int (mm_i 0)) fun h_8 =>
    some (.inl none, h_8)) (
  mm_gR h a0 8 0 fun p_1 =>
    mm_gI h p_1 7 3 fun v_2 =>
    mm_pF h a0 8 13 (.int v_2) fun h_3 =>
    mm_gR h_3 a0 8 0 fun p_4 =>
    mm_pF h_3 p_4 7 1 (.int (mm_i 0)) fun h_5 =>
    some (.inl none, h_5))) := (rfl)
-- PS.changeZ
noncomputable def mm_r139_0 (E : mm_E) (cl : mm_F) (n : Nat) (a0 : Nat) (x1 : Int32) (h : mm_H) : mm_R := mm_run E cl mm_m139 n 0 [some (.ref a0), some (.int x1), none] [] h
noncomputable def mm_r139_45 (E : mm_E) (cl : mm_F) (n : Nat) (a0 : Nat) (x1 : Int32) (x2 : Int32) (h : mm_H) : mm_R := mm_run E cl mm_m139 n 45 [some (.ref a0), some (.int x1), some (.int x2)] [] h
set_option maxRecDepth 20000 in
set_option maxHeartbeats 4000000 in
theorem mm_e139_0 (E : mm_E) (cl : mm_F) (n : Nat) (a0 : Nat) (x1 : Int32) (h : mm_H) :
  mm_r139_0 E cl (n + 1) a0 x1 h =
  (mm_br (x1 < (mm_i 0)) (
  some (.inr 1, (h.1, (none, (h.2.2.1 + 1, h.2.2.2 + 6))))) (
  (mm_br (x1 ≤ (mm_i 400)) (
    mm_gR h a0 8 1 fun p_1 =>
      mm_gI h p_1 3 11 fun v_2 =>
      mm_gR h a0 8 1 fun p_3 =>
      mm_pF h p_3 3 11 (.int x1) fun h_4 =>
      mm_gR h_4 a0 8 1 fun p_5 =>
      mm_cV [] (cl 43 [.ref p_5] h_4) fun h_6 =>
      mm_r139_45 E cl n a0 x1 v_2 h_6) (
    some (.inr 1, (h.1, (none, (h.2.2.1 + 1, h.2.2.2 + 6)))))))) := (rfl)
set_option maxRecDepth 20000 in
set_option maxHeartbeats 4000000 in
theorem mm_e139_45 (E : mm_E) (cl : mm_F) (n : Nat) (a0 : Nat) (x1 : Int32) (x2 : Int32) (h : mm_H) :
  mm_r139_45 E cl (n + 1) a0 x1 x2 h =
  mm_gR h a0 8 4 fun p_1 =>
  mm_cV [] (cl 1 [.ref p_1, .int (mm_i 7), .int (mm_i 0), .int x2] h) fun h_2 =>
  some (.inl (some (.int x2)), h_2) := (rfl)
-- PS.changeTold
noncomputable def mm_r140_0 (E : mm_E) (cl : mm_F) (n : Nat) (a0 : Nat) (x1 : Int32) (x2 : Int32) (x3 : Int32) (h : mm_H) : mm_R := mm_run E cl mm_m140 n 0 [some (.ref a0), some (.int x1), some (.int x2), some (.int x3), none] [] h
noncomputable def mm_r140_47 (E : mm_E) (cl : mm_F) (n : Nat) (a0 : Nat) (x1 : Int32) (x2 : Int32) (x3 : Int32) (x4 : Int32) (h : mm_H) : mm_R := mm_run E cl mm_m140 n 47 [some (.ref a0), some (.int x1), some (.int x2), some (.int x3), some (.int x4)] [] h
set_option maxRecDepth 20000 in
set_option maxHeartbeats 4000000 in
theorem mm_e140_0 (E : mm_E) (cl : mm_F) (n : Nat) (a0 : Nat) (x1 : Int32) (x2 : Int32) (x3 : Int32) (h : mm_H) :
  mm_r140_0 E cl (n + 1) a0 x1 x2 x3 h =
  mm_cI [] (cl 137 [.int x2, .int x3] h) fun v_2 h_1 =>
  (mm_br (v_2 = (mm_i 0)) (
  some (.inr 1, (h_1.1, (none, (h_1.2.2.1 + 1, h_1.2.2.2 + 6))))) (
  mm_gR h_1 a0 8 1 fun p_3 =>
    mm_cI [] (cl 30 [.ref p_3, .int x1, .int x2] h_1) fun v_5 h_4 =>
    mm_gR h_4 a0 8 1 fun p_6 =>
    mm_cV [] (cl 31 [.ref p_6, .int x1, .int x2, .int x3] h_4) fun h_7 =>
    mm_gR h_7 a0 8 1 fun p_8 =>
    mm_cV [] (cl 43 [.ref p_8] h_7) fun h_9 =>
    mm_r140_47 E cl n a0 x1 x2 x3 v_5 h_9)) := (rfl)
set_option maxRecDepth 20000 in
set_option maxHeartbeats 4000000 in
theorem mm_e140_47 (E : mm_E) (cl : mm_F) (n : Nat) (a0 : Nat) (x1 : Int32) (x2 : Int32) (x3 : Int32) (x4 : Int32) (h : mm_H) :
  mm_r140_47 E cl (n + 1) a0 x1 x2 x3 x4 h =
  mm_gR h a0 8 4 fun p_1 =>
  mm_cV [] (cl 1 [.ref p_1, .int x2, .int x1, .int x4] h) fun h_2 =>
  some (.inl (some (.int x4)), h_2) := (rfl)
-- PS.takeBack
noncomputable def mm_r141_0 (E : mm_E) (cl : mm_F) (n : Nat) (a0 : Nat) (x1 : Int32) (x2 : Int32) (x3 : Int32) (h : mm_H) : mm_R := mm_run E cl mm_m141 n 0 [some (.ref a0), some (.int x1), some (.int x2), some (.int x3)] [] h
set_option maxRecDepth 20000 in
set_option maxHeartbeats 4000000 in
theorem mm_e141_0 (E : mm_E) (cl : mm_F) (n : Nat) (a0 : Nat) (x1 : Int32) (x2 : Int32) (x3 : Int32) (h : mm_H) :
  mm_r141_0 E cl (n + 1) a0 x1 x2 x3 h =
  (mm_br (x1 = (mm_i 7)) (
  mm_gR h a0 8 1 fun p_7 =>
    mm_pF h p_7 3 11 (.int x3) fun h_8 =>
    some (.inl none, h_8)) (
  (mm_br (x1 = (mm_i 8)) (
  mm_gR h a0 8 1 fun p_5 =>
    mm_cV [] (cl 37 [.ref p_5] h) fun h_6 =>
    some (.inl none, h_6)) (
  (mm_br (x1 = (mm_i 9)) (
  mm_gR h a0 8 1 fun p_3 =>
    mm_cV [] (cl 39 [.ref p_3, .int x2, .int x3] h) fun h_4 =>
    some (.inl none, h_4)) (
  mm_gR h a0 8 1 fun p_1 =>
  mm_cV [] (cl 31 [.ref p_1, .int x2, .int x1, .int x3] h) fun h_2 =>
  some (.inl none, h_2))))))) := (rfl)
-- PS.takeBest
noncomputable def mm_r142_0 (E : mm_E) (cl : mm_F) (n : Nat) (a0 : Nat) (h : mm_H) : mm_R := mm_run E cl mm_m142 n 0 [some (.ref a0), none] [] h
noncomputable def mm_r142_2 (E : mm_E) (cl : mm_F) (n : Nat) (a0 : Nat) (x1 : Int32) (h : mm_H) : mm_R := mm_run E cl mm_m142 n 2 [some (.ref a0), some (.int x1)] [] h
set_option maxRecDepth 20000 in
set_option maxHeartbeats 4000000 in
theorem mm_e142_0 (E : mm_E) (cl : mm_F) (n : Nat) (a0 : Nat) (h : mm_H) :
  mm_r142_0 E cl (n + 1) a0 h =
  mm_r142_2 E cl n a0 (mm_i 0) h := (rfl)
set_option maxRecDepth 20000 in
set_option maxHeartbeats 4000000 in
theorem mm_e142_2 (E : mm_E) (cl : mm_F) (n : Nat) (a0 : Nat) (x1 : Int32) (h : mm_H) :
  mm_r142_2 E cl (n + 1) a0 x1 h =
  mm_gR h a0 8 1 fun p_1 =>
  mm_gI h p_1 3 10 fun v_2 =>
  (mm_br (v_2 ≤ x1) (
  some (.inl none, h)) (
  mm_gR h a0 8 1 fun p_3 =>
    mm_gR h p_3 3 4 fun p_4 =>
    mm_gR h a0 8 5 fun p_5 =>
    mm_cI [] (cl 6 [.ref p_5, .int x1] h) fun v_7 h_6 =>
    mm_wI h_6 p_4 x1 v_7 fun h_8 =>
    mm_r142_2 E cl n a0 (x1 + (mm_i 1)) h_8)) := (rfl)
-- PS.priceWith
noncomputable def mm_r143_0 (E : mm_E) (cl : mm_F) (n : Nat) (a0 : Nat) (x1 : Int32) (x2 : Int32) (x3 : Int32) (h : mm_H) : mm_R := mm_run E cl mm_m143 n 0 [some (.ref a0), some (.int x1), some (.int x2), some (.int x3)] [] h
set_option maxRecDepth 20000 in
set_option maxHeartbeats 4000000 in
theorem mm_e143_0 (E : mm_E) (cl : mm_F) (n : Nat) (a0 : Nat) (x1 : Int32) (x2 : Int32) (x3 : Int32) (h : mm_H) :
  mm_r143_0 E cl (n + 1) a0 x1 x2 x3 h =
  mm_gR h a0 8 2 fun p_1 =>
  mm_gR h a0 8 1 fun p_2 =>
  mm_cV [] (cl 35 [.ref p_1, .ref p_2] h) fun h_3 =>
  mm_gR h_3 a0 8 2 fun p_4 =>
  mm_cV [] (cl 31 [.ref p_4, .int x1, .int x2, .int x3] h_3) fun h_5 =>
  mm_gR h_5 a0 8 2 fun p_6 =>
  mm_cV [] (cl 43 [.ref p_6] h_5) fun h_7 =>
  mm_gR h_7 a0 8 5 fun p_8 =>
  mm_gR h_7 a0 8 2 fun p_9 =>
  mm_cI [] (cl 5 [.ref p_8, .ref p_9] h_7) fun v_11 h_10 =>
  some (.inl (some (.int v_11)), h_10) := (rfl)
-- PS.evenPrice
noncomputable def mm_r144_0 (E : mm_E) (cl : mm_F) (n : Nat) (a0 : Nat) (x1 : Int32) (h : mm_H) : mm_R := mm_run E cl mm_m144 n 0 [some (.ref a0), some (.int x1), none] [] h
noncomputable def mm_r144_41 (E : mm_E) (cl : mm_F) (n : Nat) (a0 : Nat) (x1 : Int32) (o2 : Option Value) (h : mm_H) : mm_R := mm_run E cl mm_m144 n 41 [some (.ref a0), some (.int x1), o2] [] h
noncomputable def mm_r144_54 (E : mm_E) (cl : mm_F) (n : Nat) (a0 : Nat) (x1 : Int32) (x2 : Int32) (h : mm_H) : mm_R := mm_run E cl mm_m144 n 54 [some (.ref a0), some (.int x1), some (.int x2)] [] h
noncomputable def mm_r144_126 (E : mm_E) (cl : mm_F) (n : Nat) (a0 : Nat) (x1 : Int32) (o2 : Option Value) (h : mm_H) : mm_R := mm_run E cl mm_m144 n 126 [some (.ref a0), some (.int x1), o2] [] h
set_option maxRecDepth 20000 in
set_option maxHeartbeats 4000000 in
theorem mm_e144_0 (E : mm_E) (cl : mm_F) (n : Nat) (a0 : Nat) (x1 : Int32) (h : mm_H) :
  mm_r144_0 E cl (n + 1) a0 x1 h =
  mm_gI h a0 8 11 fun v_1 =>
  mm_gR h a0 8 1 fun p_2 =>
  mm_gI h p_2 3 12 fun v_3 =>
  (mm_br (v_1 = v_3) (
  mm_gI h a0 8 10 fun v_4 =>
    mm_cI [] (cl 61 [.int v_4, .int x1] h) fun v_6 h_5 =>
    (mm_br (v_6 = (mm_i 0)) (
    mm_r144_41 E cl n a0 x1 none h_5) (
    mm_r144_126 E cl n a0 x1 none h_5))) (
  mm_gR h a0 8 1 fun p_7 =>
    mm_gI h p_7 3 12 fun v_8 =>
    mm_pF h a0 8 11 (.int v_8) fun h_9 =>
    mm_pF h_9 a0 8 10 (.int (mm_i 0)) fun h_10 =>
    mm_gI h_10 a0 8 10 fun v_11 =>
    mm_cI [] (cl 61 [.int v_11, .int x1] h_10) fun v_13 h_12 =>
    (mm_br (v_13 = (mm_i 0)) (
    mm_r144_41 E cl n a0 x1 none h_12) (
    mm_r144_126 E cl n a0 x1 none h_12)))) := (rfl)
set_option maxRecDepth 20000 in
set_option maxHeartbeats 4000000 in
theorem mm_e144_41 (E : mm_E) (cl : mm_F) (n : Nat) (a0 : Nat) (x1 : Int32) (o2 : Option Value) (h : mm_H) :
  mm_r144_41 E cl (n + 1) a0 x1 o2 h =
  mm_gR h a0 8 2 fun p_1 =>
  mm_gR h a0 8 1 fun p_2 =>
  mm_cV [] (cl 35 [.ref p_1, .ref p_2] h) fun h_3 =>
  mm_r144_54 E cl n a0 x1 (mm_i 0) h_3 := (rfl)
set_option maxRecDepth 20000 in
set_option maxHeartbeats 4000000 in
theorem mm_e144_54 (E : mm_E) (cl : mm_F) (n : Nat) (a0 : Nat) (x1 : Int32) (x2 : Int32) (h : mm_H) :
  mm_r144_54 E cl (n + 1) a0 x1 x2 h =
  mm_gR h a0 8 2 fun p_1 =>
  mm_gI h p_1 3 10 fun v_2 =>
  (mm_br (v_2 ≤ x2) (
  mm_gR h a0 8 9 fun p_3 =>
    mm_gR h a0 8 5 fun p_4 =>
    mm_gR h a0 8 2 fun p_5 =>
    mm_cI [] (cl 5 [.ref p_4, .ref p_5] h) fun v_7 h_6 =>
    mm_wI h_6 p_3 x1 v_7 fun h_8 =>
    mm_gI h_8 a0 8 10 fun v_9 =>
    mm_pF h_8 a0 8 10 (.int (v_9 ||| ((mm_i 1) <<< (x1 &&& 31)))) fun h_10 =>
    mm_r144_126 E cl n a0 x1 (some (.int x2)) h_10) (
  mm_gR h a0 8 2 fun p_11 =>
    mm_gR h a0 8 2 fun p_12 =>
    mm_gR h p_12 3 3 fun p_13 =>
    mm_rI E h p_13 x2 fun v_14 =>
    (mm_br (v_14 = (mm_i 0)) (
    mm_cV [] (cl 31 [.ref p_11, .int x2, .int (mm_i 5), .int x1] h) fun h_16 =>
      mm_r144_54 E cl n a0 x1 (x2 + (mm_i 1)) h_16) (
    mm_cV [] (cl 31 [.ref p_11, .int x2, .int (mm_i 5), .int (mm_i (-1))] h) fun h_15 =>
      mm_r144_54 E cl n a0 x1 (x2 + (mm_i 1)) h_15)))) := (rfl)
set_option maxRecDepth 20000 in
set_option maxHeartbeats 4000000 in
theorem mm_e144_126 (E : mm_E) (cl : mm_F) (n : Nat) (a0 : Nat) (x1 : Int32) (o2 : Option Value) (h : mm_H) :
  mm_r144_126 E cl (n + 1) a0 x1 o2 h =
  mm_gR h a0 8 9 fun p_1 =>
  mm_rI E h p_1 x1 fun v_2 =>
  some (.inl (some (.int v_2)), h) := (rfl)
-- Mod.thrown
noncomputable def mm_r145_0 (E : mm_E) (cl : mm_F) (n : Nat) (a0 : Nat) (h : mm_H) : mm_R := mm_run E cl mm_m145 n 0 [some (.ref a0)] [] h
set_option maxRecDepth 20000 in
set_option maxHeartbeats 4000000 in
theorem mm_e145_0 (E : mm_E) (cl : mm_F) (n : Nat) (a0 : Nat) (h : mm_H) :
  mm_r145_0 E cl (n + 1) a0 h =
  mm_gI h a0 9 0 fun v_1 =>
  some (.inl (some (.int v_1)), h) := (rfl)
-- Mod.fail
noncomputable def mm_r146_0 (E : mm_E) (cl : mm_F) (n : Nat) (a0 : Nat) (x1 : Int32) (h : mm_H) : mm_R := mm_run E cl mm_m146 n 0 [some (.ref a0), some (.int x1)] [] h
set_option maxRecDepth 20000 in
set_option maxHeartbeats 4000000 in
theorem mm_e146_0 (E : mm_E) (cl : mm_F) (n : Nat) (a0 : Nat) (x1 : Int32) (h : mm_H) :
  mm_r146_0 E cl (n + 1) a0 x1 h =
  mm_pF h a0 9 0 (.int x1) fun h_1 =>
  some (.inl (some (.int (mm_i 0))), h_1) := (rfl)
-- Mod.isIn
noncomputable def mm_r147_0 (E : mm_E) (cl : mm_F) (n : Nat) (x0 : Int32) (x1 : Int32) (x2 : Int32) (h : mm_H) : mm_R := mm_run E cl mm_m147 n 0 [some (.int x0), some (.int x1), some (.int x2)] [] h
set_option maxRecDepth 20000 in
set_option maxHeartbeats 4000000 in
theorem mm_e147_0 (E : mm_E) (cl : mm_F) (n : Nat) (x0 : Int32) (x1 : Int32) (x2 : Int32) (h : mm_H) :
  mm_r147_0 E cl (n + 1) x0 x1 x2 h =
  (mm_br (x0 < x1) (
  (mm_bz (mm_i 0) (some (.inl (some (.int (mm_i 0))), h)))) (
  (mm_br (x2 < x0) (
    (mm_bz (mm_i 0) (some (.inl (some (.int (mm_i 0))), h)))) (
    (mm_bz (mm_i 1) (some (.inl (some (.int (mm_i 1))), h))))))) := (rfl)
-- Mod.init
noncomputable def mm_r148_0 (E : mm_E) (cl : mm_F) (n : Nat) (a0 : Nat) (h : mm_H) : mm_R := mm_run E cl mm_m148 n 0 [some (.ref a0)] [] h
noncomputable def mm_r148_48 (E : mm_E) (cl : mm_F) (n : Nat) (a0 : Nat) (h : mm_H) : mm_R := mm_run E cl mm_m148 n 48 [some (.ref a0)] [] h
noncomputable def mm_r148_90 (E : mm_E) (cl : mm_F) (n : Nat) (a0 : Nat) (h : mm_H) : mm_R := mm_run E cl mm_m148 n 90 [some (.ref a0)] [] h
noncomputable def mm_r148_131 (E : mm_E) (cl : mm_F) (n : Nat) (a0 : Nat) (h : mm_H) : mm_R := mm_run E cl mm_m148 n 131 [some (.ref a0)] [] h
noncomputable def mm_r148_173 (E : mm_E) (cl : mm_F) (n : Nat) (a0 : Nat) (h : mm_H) : mm_R := mm_run E cl mm_m148 n 173 [some (.ref a0)] [] h
set_option maxRecDepth 20000 in
set_option maxHeartbeats 4000000 in
theorem mm_e148_0 (E : mm_E) (cl : mm_F) (n : Nat) (a0 : Nat) (h : mm_H) :
  mm_r148_0 E cl (n + 1) a0 h =
  mm_nn (mm_i 190) fun k_3 => mm_al h (.inr (.inl (k_3, fun _ => 0))) k_3 fun p_1 h_2 =>
  mm_pF h_2 a0 9 1 (.ref p_1) fun h_4 =>
  mm_nn (mm_i 190) fun k_7 => mm_al h_4 (.inr (.inl (k_7, fun _ => 0))) k_7 fun p_5 h_6 =>
  mm_pF h_6 a0 9 2 (.ref p_5) fun h_8 =>
  mm_nn (mm_i 3800) fun k_11 => mm_al h_8 (.inr (.inl (k_11, fun _ => 0))) k_11 fun p_9 h_10 =>
  mm_pF h_10 a0 9 3 (.ref p_9) fun h_12 =>
  mm_nn (mm_i 12) fun k_15 => mm_al h_12 (.inr (.inl (k_15, fun _ => 0))) k_15 fun p_13 h_14 =>
  mm_pF h_14 a0 9 5 (.ref p_13) fun h_16 =>
  mm_nn (mm_i 480) fun k_19 => mm_al h_16 (.inr (.inl (k_19, fun _ => 0))) k_19 fun p_17 h_18 =>
  mm_pF h_18 a0 9 6 (.ref p_17) fun h_20 =>
  mm_r148_48 E cl n a0 h_20 := (rfl)
set_option maxRecDepth 20000 in
set_option maxHeartbeats 4000000 in
theorem mm_e148_48 (E : mm_E) (cl : mm_F) (n : Nat) (a0 : Nat) (h : mm_H) :
  mm_r148_48 E cl (n + 1) a0 h =
  mm_nn (mm_i 12) fun k_3 => mm_al h (.inr (.inl (k_3, fun _ => 0))) k_3 fun p_1 h_2 =>
  mm_pF h_2 a0 9 7 (.ref p_1) fun h_4 =>
  mm_nn (mm_i 1440) fun k_7 => mm_al h_4 (.inr (.inl (k_7, fun _ => 0))) k_7 fun p_5 h_6 =>
  mm_pF h_6 a0 9 8 (.ref p_5) fun h_8 =>
  mm_nn (mm_i 1440) fun k_11 => mm_al h_8 (.inr (.inl (k_11, fun _ => 0))) k_11 fun p_9 h_10 =>
  mm_pF h_10 a0 9 9 (.ref p_9) fun h_12 =>
  mm_nn (mm_i 120) fun k_15 => mm_al h_12 (.inr (.inl (k_15, fun _ => 0))) k_15 fun p_13 h_14 =>
  mm_pF h_14 a0 9 10 (.ref p_13) fun h_16 =>
  mm_nn (mm_i 120) fun k_19 => mm_al h_16 (.inr (.inl (k_19, fun _ => 0))) k_19 fun p_17 h_18 =>
  mm_pF h_18 a0 9 11 (.ref p_17) fun h_20 =>
  mm_r148_90 E cl n a0 h_20 := (rfl)
set_option maxRecDepth 20000 in
set_option maxHeartbeats 4000000 in
theorem mm_e148_90 (E : mm_E) (cl : mm_F) (n : Nat) (a0 : Nat) (h : mm_H) :
  mm_r148_90 E cl (n + 1) a0 h =
  mm_nn (mm_i 120) fun k_3 => mm_al h (.inr (.inl (k_3, fun _ => 0))) k_3 fun p_1 h_2 =>
  mm_pF h_2 a0 9 12 (.ref p_1) fun h_4 =>
  mm_nn (mm_i 120) fun k_7 => mm_al h_4 (.inr (.inl (k_7, fun _ => 0))) k_7 fun p_5 h_6 =>
  mm_pF h_6 a0 9 13 (.ref p_5) fun h_8 =>
  mm_nn (mm_i 2880) fun k_11 => mm_al h_8 (.inr (.inl (k_11, fun _ => 0))) k_11 fun p_9 h_10 =>
  mm_pF h_10 a0 9 14 (.ref p_9) fun h_12 =>
  mm_nn (mm_i 12) fun k_15 => mm_al h_12 (.inr (.inl (k_15, fun _ => 0))) k_15 fun p_13 h_14 =>
  mm_pF h_14 a0 9 16 (.ref p_13) fun h_16 =>
  mm_nn (mm_i 12) fun k_19 => mm_al h_16 (.inr (.inl (k_19, fun _ => 0))) k_19 fun p_17 h_18 =>
  mm_pF h_18 a0 9 17 (.ref p_17) fun h_20 =>
  mm_r148_131 E cl n a0 h_20 := (rfl)
set_option maxRecDepth 20000 in
set_option maxHeartbeats 4000000 in
theorem mm_e148_131 (E : mm_E) (cl : mm_F) (n : Nat) (a0 : Nat) (h : mm_H) :
  mm_r148_131 E cl (n + 1) a0 h =
  mm_nn (mm_i 40) fun k_3 => mm_al h (.inr (.inl (k_3, fun _ => 0))) k_3 fun p_1 h_2 =>
  mm_pF h_2 a0 9 19 (.ref p_1) fun h_4 =>
  mm_nn (mm_i 41) fun k_7 => mm_al h_4 (.inr (.inl (k_7, fun _ => 0))) k_7 fun p_5 h_6 =>
  mm_pF h_6 a0 9 20 (.ref p_5) fun h_8 =>
  mm_nn (mm_i 190) fun k_11 => mm_al h_8 (.inr (.inl (k_11, fun _ => 0))) k_11 fun p_9 h_10 =>
  mm_pF h_10 a0 9 21 (.ref p_9) fun h_12 =>
  mm_nn (mm_i 12) fun k_15 => mm_al h_12 (.inr (.inl (k_15, fun _ => 0))) k_15 fun p_13 h_14 =>
  mm_pF h_14 a0 9 22 (.ref p_13) fun h_16 =>
  mm_nn (mm_i 480) fun k_19 => mm_al h_16 (.inr (.inl (k_19, fun _ => 0))) k_19 fun p_17 h_18 =>
  mm_pF h_18 a0 9 23 (.ref p_17) fun h_20 =>
  mm_r148_173 E cl n a0 h_20 := (rfl)
set_option maxRecDepth 20000 in
set_option maxHeartbeats 4000000 in
theorem mm_e148_173 (E : mm_E) (cl : mm_F) (n : Nat) (a0 : Nat) (h : mm_H) :
  mm_r148_173 E cl (n + 1) a0 h =
  mm_nn (mm_i 400) fun k_3 => mm_al h (.inr (.inl (k_3, fun _ => 0))) k_3 fun p_1 h_2 =>
  mm_pF h_2 a0 9 25 (.ref p_1) fun h_4 =>
  mm_pF h_4 a0 9 34 (.int (mm_i (-1))) fun h_5 =>
  mm_gR h_5 a0 9 1 fun p_6 =>
  mm_cV [] (cl 149 [.ref p_6] h_5) fun h_7 =>
  some (.inl none, h_7) := (rfl)
-- Mod.bare
noncomputable def mm_r149_0 (E : mm_E) (cl : mm_F) (n : Nat) (a0 : Nat) (h : mm_H) : mm_R := mm_run E cl mm_m149 n 0 [some (.ref a0), none] [] h
noncomputable def mm_r149_2 (E : mm_E) (cl : mm_F) (n : Nat) (a0 : Nat) (x1 : Int32) (h : mm_H) : mm_R := mm_run E cl mm_m149 n 2 [some (.ref a0), some (.int x1)] [] h
set_option maxRecDepth 20000 in
set_option maxHeartbeats 4000000 in
theorem mm_e149_0 (E : mm_E) (cl : mm_F) (n : Nat) (a0 : Nat) (h : mm_H) :
  mm_r149_0 E cl (n + 1) a0 h =
  mm_r149_2 E cl n a0 (mm_i 0) h := (rfl)
set_option maxRecDepth 20000 in
set_option maxHeartbeats 4000000 in
theorem mm_e149_2 (E : mm_E) (cl : mm_F) (n : Nat) (a0 : Nat) (x1 : Int32) (h : mm_H) :
  mm_r149_2 E cl (n + 1) a0 x1 h =
  (mm_br ((mm_i 190) ≤ x1) (
  mm_wI h a0 (mm_i 1) (mm_i 165) fun h_1 =>
    some (.inl none, h_1)) (
  mm_wI h a0 x1 (mm_i 0) fun h_2 =>
    mm_r149_2 E cl n a0 (x1 + (mm_i 1)) h_2)) := (rfl)
-- Mod.many
noncomputable def mm_r150_0 (E : mm_E) (cl : mm_F) (n : Nat) (a0 : Nat) (h : mm_H) : mm_R := mm_run E cl mm_m150 n 0 [some (.ref a0)] [] h
set_option maxRecDepth 20000 in
set_option maxHeartbeats 4000000 in
theorem mm_e150_0 (E : mm_E) (cl : mm_F) (n : Nat) (a0 : Nat) (h : mm_H) :
  mm_r150_0 E cl (n + 1) a0 h =
  mm_gR h a0 9 1 fun p_1 =>
  mm_rI E h p_1 (mm_i 0) fun v_2 =>
  some (.inl (some (.int v_2)), h) := (rfl)
-- Mod.isStage
noncomputable def mm_r151_0 (E : mm_E) (cl : mm_F) (n : Nat) (a0 : Nat) (x1 : Int32) (h : mm_H) : mm_R := mm_run E cl mm_m151 n 0 [some (.ref a0), some (.int x1)] [] h
set_option maxRecDepth 20000 in
set_option maxHeartbeats 4000000 in
theorem mm_e151_0 (E : mm_E) (cl : mm_F) (n : Nat) (a0 : Nat) (x1 : Int32) (h : mm_H) :
  mm_r151_0 E cl (n + 1) a0 x1 h =
  mm_cI [] (cl 150 [.ref a0] h) fun v_2 h_1 =>
  mm_cI [] (cl 147 [.int x1, .int (mm_i 0), .int (v_2 - (mm_i 1))] h_1) fun v_4 h_3 =>
  (mm_bz v_4 (some (.inl (some (.int v_4)), h_3))) := (rfl)
-- Mod.of
noncomputable def mm_r152_0 (E : mm_E) (cl : mm_F) (n : Nat) (a0 : Nat) (x1 : Int32) (x2 : Int32) (h : mm_H) : mm_R := mm_run E cl mm_m152 n 0 [some (.ref a0), some (.int x1), some (.int x2)] [] h
set_option maxRecDepth 20000 in
set_option maxHeartbeats 4000000 in
theorem mm_e152_0 (E : mm_E) (cl : mm_F) (n : Nat) (a0 : Nat) (x1 : Int32) (x2 : Int32) (h : mm_H) :
  mm_r152_0 E cl (n + 1) a0 x1 x2 h =
  mm_gR h a0 9 1 fun p_1 =>
  mm_rI E h p_1 (((mm_i 3) + ((mm_i 7) * x1)) + x2) fun v_2 =>
  some (.inl (some (.int v_2)), h) := (rfl)
-- Mod.lay
noncomputable def mm_r153_0 (E : mm_E) (cl : mm_F) (n : Nat) (a0 : Nat) (x1 : Int32) (x2 : Int32) (x3 : Int32) (h : mm_H) : mm_R := mm_run E cl mm_m153 n 0 [some (.ref a0), some (.int x1), some (.int x2), some (.int x3), none, none] [] h
noncomputable def mm_r153_11 (E : mm_E) (cl : mm_F) (n : Nat) (a0 : Nat) (x1 : Int32) (x2 : Int32) (x3 : Int32) (x4 : Int32) (x5 : Int32) (h : mm_H) : mm_R := mm_run E cl mm_m153 n 11 [some (.ref a0), some (.int x1), some (.int x2), some (.int x3), some (.int x4), some (.int x5)] [] h
noncomputable def mm_r153_53 (E : mm_E) (cl : mm_F) (n : Nat) (a0 : Nat) (x1 : Int32) (x2 : Int32) (x3 : Int32) (x4 : Int32) (x5 : Int32) (h : mm_H) : mm_R := mm_run E cl mm_m153 n 53 [some (.ref a0), some (.int x1), some (.int x2), some (.int x3), some (.int x4), some (.int x5)] [] h
set_option maxRecDepth 20000 in
set_option maxHeartbeats 4000000 in
theorem mm_e153_0 (E : mm_E) (cl : mm_F) (n : Nat) (a0 : Nat) (x1 : Int32) (x2 : Int32) (x3 : Int32) (h : mm_H) :
  mm_r153_0 E cl (n + 1) a0 x1 x2 x3 h =
  mm_r153_11 E cl n a0 x1 x2 x3 ((mm_i 3) + ((mm_i 7) * x1)) (mm_i 0) h := (rfl)
set_option maxRecDepth 20000 in
set_option maxHeartbeats 4000000 in
theorem mm_e153_11 (E : mm_E) (cl : mm_F) (n : Nat) (a0 : Nat) (x1 : Int32) (x2 : Int32) (x3 : Int32) (x4 : Int32) (x5 : Int32) (h : mm_H) :
  mm_r153_11 E cl (n + 1) a0 x1 x2 x3 x4 x5 h =
  (mm_br ((mm_i 7) ≤ x5) (
  mm_wI h a0 (x4 + (mm_i 0)) x2 fun h_1 =>
    mm_wI h_1 a0 (x4 + (mm_i 1)) x3 fun h_2 =>
    mm_wI h_2 a0 (x4 + (mm_i 5)) (mm_i (-1)) fun h_3 =>
    mm_r153_53 E cl n a0 x1 x2 x3 x4 x5 h_3) (
  mm_wI h a0 (x4 + x5) (mm_i 0) fun h_4 =>
    mm_r153_11 E cl n a0 x1 x2 x3 x4 (x5 + (mm_i 1)) h_4)) := (rfl)
set_option maxRecDepth 20000 in
set_option maxHeartbeats 4000000 in
theorem mm_e153_53 (E : mm_E) (cl : mm_F) (n : Nat) (a0 : Nat) (x1 : Int32) (x2 : Int32) (x3 : Int32) (x4 : Int32) (x5 : Int32) (h : mm_H) :
  mm_r153_53 E cl (n + 1) a0 x1 x2 x3 x4 x5 h =
  mm_wI h a0 (x4 + (mm_i 6)) (mm_i (-1)) fun h_1 =>
  some (.inl none, h_1) := (rfl)
-- Mod.join
noncomputable def mm_r154_0 (E : mm_E) (cl : mm_F) (n : Nat) (a0 : Nat) (x1 : Int32) (x2 : Int32) (h : mm_H) : mm_R := mm_run E cl mm_m154 n 0 [some (.ref a0), some (.int x1), some (.int x2)] [] h
noncomputable def mm_r154_26 (E : mm_E) (cl : mm_F) (n : Nat) (a0 : Nat) (x1 : Int32) (x2 : Int32) (h : mm_H) : mm_R := mm_run E cl mm_m154 n 26 [some (.ref a0), some (.int x1), some (.int x2)] [] h
set_option maxRecDepth 20000 in
set_option maxHeartbeats 4000000 in
theorem mm_e154_0 (E : mm_E) (cl : mm_F) (n : Nat) (a0 : Nat) (x1 : Int32) (x2 : Int32) (h : mm_H) :
  mm_r154_0 E cl (n + 1) a0 x1 x2 h =
  mm_rI E h a0 (mm_i 2) fun v_1 =>
  mm_wI h a0 ((mm_i 159) + ((mm_i 2) * v_1)) x1 fun h_2 =>
  mm_rI E h_2 a0 (mm_i 2) fun v_3 =>
  mm_wI h_2 a0 (((mm_i 159) + ((mm_i 2) * v_3)) + (mm_i 1)) x2 fun h_4 =>
  mm_r154_26 E cl n a0 x1 x2 h_4 := (rfl)
set_option maxRecDepth 20000 in
set_option maxHeartbeats 4000000 in
theorem mm_e154_26 (E : mm_E) (cl : mm_F) (n : Nat) (a0 : Nat) (x1 : Int32) (x2 : Int32) (h : mm_H) :
  mm_r154_26 E cl (n + 1) a0 x1 x2 h =
  mm_rI E h a0 (mm_i 2) fun v_1 =>
  mm_wI h a0 (mm_i 2) (v_1 + (mm_i 1)) fun h_2 =>
  some (.inl none, h_2) := (rfl)
-- Mod.from
noncomputable def mm_r155_0 (E : mm_E) (cl : mm_F) (n : Nat) (a0 : Nat) (x1 : Int32) (h : mm_H) : mm_R := mm_run E cl mm_m155 n 0 [some (.ref a0), some (.int x1)] [] h
set_option maxRecDepth 20000 in
set_option maxHeartbeats 4000000 in
theorem mm_e155_0 (E : mm_E) (cl : mm_F) (n : Nat) (a0 : Nat) (x1 : Int32) (h : mm_H) :
  mm_r155_0 E cl (n + 1) a0 x1 h =
  mm_gR h a0 9 1 fun p_1 =>
  mm_rI E h p_1 ((mm_i 159) + ((mm_i 2) * x1)) fun v_2 =>
  some (.inl (some (.int v_2)), h) := (rfl)
-- Mod.to
noncomputable def mm_r156_0 (E : mm_E) (cl : mm_F) (n : Nat) (a0 : Nat) (x1 : Int32) (h : mm_H) : mm_R := mm_run E cl mm_m156 n 0 [some (.ref a0), some (.int x1)] [] h
set_option maxRecDepth 20000 in
set_option maxHeartbeats 4000000 in
theorem mm_e156_0 (E : mm_E) (cl : mm_F) (n : Nat) (a0 : Nat) (x1 : Int32) (h : mm_H) :
  mm_r156_0 E cl (n + 1) a0 x1 h =
  mm_gR h a0 9 1 fun p_1 =>
  mm_rI E h p_1 (((mm_i 159) + ((mm_i 2) * x1)) + (mm_i 1)) fun v_2 =>
  some (.inl (some (.int v_2)), h) := (rfl)
-- Mod.suppliersOf
noncomputable def mm_r157_0 (E : mm_E) (cl : mm_F) (n : Nat) (a0 : Nat) (x1 : Int32) (h : mm_H) : mm_R := mm_run E cl mm_m157 n 0 [some (.ref a0), some (.int x1), none, none] [] h
noncomputable def mm_r157_4 (E : mm_E) (cl : mm_F) (n : Nat) (a0 : Nat) (x1 : Int32) (x2 : Int32) (x3 : Int32) (h : mm_H) : mm_R := mm_run E cl mm_m157 n 4 [some (.ref a0), some (.int x1), some (.int x2), some (.int x3)] [] h
set_option maxRecDepth 20000 in
set_option maxHeartbeats 4000000 in
theorem mm_e157_0 (E : mm_E) (cl : mm_F) (n : Nat) (a0 : Nat) (x1 : Int32) (h : mm_H) :
  mm_r157_0 E cl (n + 1) a0 x1 h =
  mm_r157_4 E cl n a0 x1 (mm_i 0) (mm_i 0) h := (rfl)
set_option maxRecDepth 20000 in
set_option maxHeartbeats 4000000 in
theorem mm_e157_4 (E : mm_E) (cl : mm_F) (n : Nat) (a0 : Nat) (x1 : Int32) (x2 : Int32) (x3 : Int32) (h : mm_H) :
  mm_r157_4 E cl (n + 1) a0 x1 x2 x3 h =
  mm_gR h a0 9 1 fun p_1 =>
  mm_rI E h p_1 (mm_i 2) fun v_2 =>
  (mm_br (v_2 ≤ x3) (
  some (.inl (some (.int x2)), h)) (
  mm_cI [] (cl 156 [.ref a0, .int x3] h) fun v_4 h_3 =>
    (mm_br (v_4 = x1) (
    mm_cI [] (cl 155 [.ref a0, .int x3] h_3) fun v_6 h_5 =>
      mm_r157_4 E cl n a0 x1 (x2 ||| ((mm_i 1) <<< (v_6 &&& 31))) (x3 + (mm_i 1)) h_5) (
    mm_r157_4 E cl n a0 x1 (x2 ||| (mm_i 0)) (x3 + (mm_i 1)) h_3)))) := (rfl)
-- Mod.customersOf
noncomputable def mm_r158_0 (E : mm_E) (cl : mm_F) (n : Nat) (a0 : Nat) (x1 : Int32) (h : mm_H) : mm_R := mm_run E cl mm_m158 n 0 [some (.ref a0), some (.int x1), none, none] [] h
noncomputable def mm_r158_4 (E : mm_E) (cl : mm_F) (n : Nat) (a0 : Nat) (x1 : Int32) (x2 : Int32) (x3 : Int32) (h : mm_H) : mm_R := mm_run E cl mm_m158 n 4 [some (.ref a0), some (.int x1), some (.int x2), some (.int x3)] [] h
set_option maxRecDepth 20000 in
set_option maxHeartbeats 4000000 in
theorem mm_e158_0 (E : mm_E) (cl : mm_F) (n : Nat) (a0 : Nat) (x1 : Int32) (h : mm_H) :
  mm_r158_0 E cl (n + 1) a0 x1 h =
  mm_r158_4 E cl n a0 x1 (mm_i 0) (mm_i 0) h := (rfl)
set_option maxRecDepth 20000 in
set_option maxHeartbeats 4000000 in
theorem mm_e158_4 (E : mm_E) (cl : mm_F) (n : Nat) (a0 : Nat) (x1 : Int32) (x2 : Int32) (x3 : Int32) (h : mm_H) :
  mm_r158_4 E cl (n + 1) a0 x1 x2 x3 h =
  mm_gR h a0 9 1 fun p_1 =>
  mm_rI E h p_1 (mm_i 2) fun v_2 =>
  (mm_br (v_2 ≤ x3) (
  some (.inl (some (.int x2)), h)) (
  mm_cI [] (cl 155 [.ref a0, .int x3] h) fun v_4 h_3 =>
    (mm_br (v_4 = x1) (
    mm_cI [] (cl 156 [.ref a0, .int x3] h_3) fun v_6 h_5 =>
      mm_r158_4 E cl n a0 x1 (x2 ||| ((mm_i 1) <<< (v_6 &&& 31))) (x3 + (mm_i 1)) h_5) (
    mm_r158_4 E cl n a0 x1 (x2 ||| (mm_i 0)) (x3 + (mm_i 1)) h_3)))) := (rfl)
-- Mod.isOf
noncomputable def mm_r159_0 (E : mm_E) (cl : mm_F) (n : Nat) (x0 : Int32) (x1 : Int32) (h : mm_H) : mm_R := mm_run E cl mm_m159 n 0 [some (.int x0), some (.int x1)] [] h
set_option maxRecDepth 20000 in
set_option maxHeartbeats 4000000 in
theorem mm_e159_0 (E : mm_E) (cl : mm_F) (n : Nat) (x0 : Int32) (x1 : Int32) (h : mm_H) :
  mm_r159_0 E cl (n + 1) x0 x1 h =
  (mm_br (((x0 >>> (x1 &&& 31)) &&& (mm_i 1)) = (mm_i 1)) (
  (mm_bz (mm_i 1) (some (.inl (some (.int (mm_i 1))), h)))) (
  (mm_bz (mm_i 0) (some (.inl (some (.int (mm_i 0))), h))))) := (rfl)
-- Mod.bitsOf
noncomputable def mm_r160_0 (E : mm_E) (cl : mm_F) (n : Nat) (x0 : Int32) (h : mm_H) : mm_R := mm_run E cl mm_m160 n 0 [some (.int x0), none, none] [] h
noncomputable def mm_r160_4 (E : mm_E) (cl : mm_F) (n : Nat) (x0 : Int32) (x1 : Int32) (x2 : Int32) (h : mm_H) : mm_R := mm_run E cl mm_m160 n 4 [some (.int x0), some (.int x1), some (.int x2)] [] h
set_option maxRecDepth 20000 in
set_option maxHeartbeats 4000000 in
theorem mm_e160_0 (E : mm_E) (cl : mm_F) (n : Nat) (x0 : Int32) (h : mm_H) :
  mm_r160_0 E cl (n + 1) x0 h =
  mm_r160_4 E cl n x0 (mm_i 0) x0 h := (rfl)
set_option maxRecDepth 20000 in
set_option maxHeartbeats 4000000 in
theorem mm_e160_4 (E : mm_E) (cl : mm_F) (n : Nat) (x0 : Int32) (x1 : Int32) (x2 : Int32) (h : mm_H) :
  mm_r160_4 E cl (n + 1) x0 x1 x2 h =
  (mm_br (x2 = (mm_i 0)) (
  some (.inl (some (.int x1)), h)) (
  mm_r160_4 E cl n x0 (x1 + (mm_i 1)) (x2 &&& (x2 - (mm_i 1))) h)) := (rfl)
-- Mod.partOf
noncomputable def mm_r161_0 (E : mm_E) (cl : mm_F) (n : Nat) (a0 : Nat) (x1 : Int32) (h : mm_H) : mm_R := mm_run E cl mm_m161 n 0 [some (.ref a0), some (.int x1), none, none, none, none, none] [] h
noncomputable def mm_r161_6 (E : mm_E) (cl : mm_F) (n : Nat) (a0 : Nat) (x1 : Int32) (x2 : Int32) (x3 : Int32) (o4 : Option Value) (o5 : Option Value) (o6 : Option Value) (h : mm_H) : mm_R := mm_run E cl mm_m161 n 6 [some (.ref a0), some (.int x1), some (.int x2), some (.int x3), o4, o5, o6] [] h
noncomputable def mm_r161_15 (E : mm_E) (cl : mm_F) (n : Nat) (a0 : Nat) (x1 : Int32) (x2 : Int32) (x3 : Int32) (x4 : Int32) (o5 : Option Value) (o6 : Option Value) (h : mm_H) : mm_R := mm_run E cl mm_m161 n 15 [some (.ref a0), some (.int x1), some (.int x2), some (.int x3), some (.int x4), o5, o6] [] h
noncomputable def mm_r161_49 (E : mm_E) (cl : mm_F) (n : Nat) (a0 : Nat) (x1 : Int32) (x2 : Int32) (x3 : Int32) (x4 : Int32) (x5 : Int32) (x6 : Int32) (h : mm_H) : mm_R := mm_run E cl mm_m161 n 49 [some (.ref a0), some (.int x1), some (.int x2), some (.int x3), some (.int x4), some (.int x5), some (.int x6)] [] h
set_option maxRecDepth 20000 in
set_option maxHeartbeats 4000000 in
theorem mm_e161_0 (E : mm_E) (cl : mm_F) (n : Nat) (a0 : Nat) (x1 : Int32) (h : mm_H) :
  mm_r161_0 E cl (n + 1) a0 x1 h =
  mm_r161_6 E cl n a0 x1 ((mm_i 1) <<< (x1 &&& 31)) (mm_i 1) none none none h := (rfl)
set_option maxRecDepth 20000 in
set_option maxHeartbeats 4000000 in
theorem mm_e161_6 (E : mm_E) (cl : mm_F) (n : Nat) (a0 : Nat) (x1 : Int32) (x2 : Int32) (x3 : Int32) (o4 : Option Value) (o5 : Option Value) (o6 : Option Value) (h : mm_H) :
  mm_r161_6 E cl (n + 1) a0 x1 x2 x3 o4 o5 o6 h =
  (mm_br (x3 = (mm_i 0)) (
  some (.inl (some (.int x2)), h)) (
  mm_r161_15 E cl n a0 x1 x2 (mm_i 0) (mm_i 0) o5 o6 h)) := (rfl)
set_option maxRecDepth 20000 in
set_option maxHeartbeats 4000000 in
theorem mm_e161_15 (E : mm_E) (cl : mm_F) (n : Nat) (a0 : Nat) (x1 : Int32) (x2 : Int32) (x3 : Int32) (x4 : Int32) (o5 : Option Value) (o6 : Option Value) (h : mm_H) :
  mm_r161_15 E cl (n + 1) a0 x1 x2 x3 x4 o5 o6 h =
  mm_rI E h a0 (mm_i 2) fun v_1 =>
  (mm_br (v_1 ≤ x4) (
  mm_r161_6 E cl n a0 x1 x2 x3 (some (.int x4)) o5 o6 h) (
  mm_rI E h a0 ((mm_i 159) + ((mm_i 2) * x4)) fun v_2 =>
    mm_rI E h a0 (((mm_i 159) + ((mm_i 2) * x4)) + (mm_i 1)) fun v_3 =>
    mm_r161_49 E cl n a0 x1 x2 x3 x4 v_2 v_3 h)) := (rfl)
set_option maxRecDepth 20000 in
set_option maxHeartbeats 4000000 in
theorem mm_e161_49 (E : mm_E) (cl : mm_F) (n : Nat) (a0 : Nat) (x1 : Int32) (x2 : Int32) (x3 : Int32) (x4 : Int32) (x5 : Int32) (x6 : Int32) (h : mm_H) :
  mm_r161_49 E cl (n + 1) a0 x1 x2 x3 x4 x5 x6 h =
  mm_cI [] (cl 159 [.int x2, .int x5] h) fun v_2 h_1 =>
  mm_cI [] (cl 159 [.int x2, .int x6] h_1) fun v_4 h_3 =>
  (mm_br (v_2 = v_4) (
  mm_r161_15 E cl n a0 x1 x2 x3 (x4 + (mm_i 1)) (some (.int x5)) (some (.int x6)) h_3) (
  mm_r161_15 E cl n a0 x1 (x2 ||| (((mm_i 1) <<< (x5 &&& 31)) ||| ((mm_i 1) <<< (x6 &&& 31)))) (mm_i 1) (x4 + (mm_i 1)) (some (.int x5)) (some (.int x6)) h_3)) := (rfl)
-- Mod.flowOf
noncomputable def mm_r162_0 (E : mm_E) (cl : mm_F) (n : Nat) (a0 : Nat) (x1 : Int32) (x2 : Int32) (h : mm_H) : mm_R := mm_run E cl mm_m162 n 0 [some (.ref a0), some (.int x1), some (.int x2), none, none] [] h
noncomputable def mm_r162_10 (E : mm_E) (cl : mm_F) (n : Nat) (a0 : Nat) (x1 : Int32) (x2 : Int32) (x3 : Int32) (x4 : Int32) (h : mm_H) : mm_R := mm_run E cl mm_m162 n 10 [some (.ref a0), some (.int x1), some (.int x2), some (.int x3), some (.int x4)] [] h
set_option maxRecDepth 20000 in
set_option maxHeartbeats 4000000 in
theorem mm_e162_0 (E : mm_E) (cl : mm_F) (n : Nat) (a0 : Nat) (x1 : Int32) (x2 : Int32) (h : mm_H) :
  mm_r162_0 E cl (n + 1) a0 x1 x2 h =
  mm_cI [] (cl 152 [.ref a0, .int x1, .int x2] h) fun v_2 h_1 =>
  mm_r162_10 E cl n a0 x1 x2 v_2 (mm_i 0) h_1 := (rfl)
set_option maxRecDepth 20000 in
set_option maxHeartbeats 4000000 in
theorem mm_e162_10 (E : mm_E) (cl : mm_F) (n : Nat) (a0 : Nat) (x1 : Int32) (x2 : Int32) (x3 : Int32) (x4 : Int32) (h : mm_H) :
  mm_r162_10 E cl (n + 1) a0 x1 x2 x3 x4 h =
  mm_cI [] (cl 150 [.ref a0] h) fun v_2 h_1 =>
  (mm_br (v_2 ≤ x4) (
  some (.inl (some (.int x3)), h_1)) (
  mm_cI [] (cl 158 [.ref a0, .int x1] h_1) fun v_4 h_3 =>
    mm_cI [] (cl 159 [.int v_4, .int x4] h_3) fun v_6 h_5 =>
    (mm_br (v_6 = (mm_i 0)) (
    mm_r162_10 E cl n a0 x1 x2 (x3 + (mm_i 0)) (x4 + (mm_i 1)) h_5) (
    mm_cI [] (cl 162 [.ref a0, .int x4, .int x2] h_5) fun v_8 h_7 =>
      mm_r162_10 E cl n a0 x1 x2 (x3 + v_8) (x4 + (mm_i 1)) h_7)))) := (rfl)
-- Mod.longestOf
noncomputable def mm_r163_0 (E : mm_E) (cl : mm_F) (n : Nat) (a0 : Nat) (x1 : Int32) (h : mm_H) : mm_R := mm_run E cl mm_m163 n 0 [some (.ref a0), some (.int x1), none, none] [] h
noncomputable def mm_r163_9 (E : mm_E) (cl : mm_F) (n : Nat) (a0 : Nat) (x1 : Int32) (x2 : Int32) (x3 : Int32) (h : mm_H) : mm_R := mm_run E cl mm_m163 n 9 [some (.ref a0), some (.int x1), some (.int x2), some (.int x3)] [] h
set_option maxRecDepth 20000 in
set_option maxHeartbeats 4000000 in
theorem mm_e163_0 (E : mm_E) (cl : mm_F) (n : Nat) (a0 : Nat) (x1 : Int32) (h : mm_H) :
  mm_r163_0 E cl (n + 1) a0 x1 h =
  mm_cI [] (cl 152 [.ref a0, .int x1, .int (mm_i 2)] h) fun v_2 h_1 =>
  mm_r163_9 E cl n a0 x1 v_2 (mm_i 0) h_1 := (rfl)
set_option maxRecDepth 20000 in
set_option maxHeartbeats 4000000 in
theorem mm_e163_9 (E : mm_E) (cl : mm_F) (n : Nat) (a0 : Nat) (x1 : Int32) (x2 : Int32) (x3 : Int32) (h : mm_H) :
  mm_r163_9 E cl (n + 1) a0 x1 x2 x3 h =
  mm_cI [] (cl 150 [.ref a0] h) fun v_2 h_1 =>
  (mm_br (v_2 ≤ x3) (
  mm_cI [] (cl 152 [.ref a0, .int x1, .int (mm_i 0)] h_1) fun v_4 h_3 =>
    some (.inl (some (.int (x2 + v_4))), h_3)) (
  mm_cI [] (cl 157 [.ref a0, .int x1] h_1) fun v_6 h_5 =>
    mm_cI [] (cl 159 [.int v_6, .int x3] h_5) fun v_8 h_7 =>
    (mm_br (v_8 = (mm_i 0)) (
    mm_r163_9 E cl n a0 x1 x2 (x3 + (mm_i 1)) h_7) (
    mm_cI [] (cl 163 [.ref a0, .int x3] h_7) fun v_10 h_9 =>
      mm_r163_9 E cl n a0 x1 (mm_mx x2 v_10) (x3 + (mm_i 1)) h_9)))) := (rfl)
-- Mod.rootOf
noncomputable def mm_r164_0 (E : mm_E) (cl : mm_F) (n : Nat) (y0 : Int64) (h : mm_H) : mm_R := mm_run E cl mm_m164 n 0 [some (.long y0), none, none, none, none, none, none, none] [] h
noncomputable def mm_r164_7 (E : mm_E) (cl : mm_F) (n : Nat) (y0 : Int64) (y2 : Int64) (y4 : Int64) (o6 : Option Value) (o7 : Option Value) (h : mm_H) : mm_R := mm_run E cl mm_m164 n 7 [some (.long y0), none, some (.long y2), none, some (.long y4), none, o6, o7] [] h
set_option maxRecDepth 20000 in
set_option maxHeartbeats 4000000 in
theorem mm_e164_0 (E : mm_E) (cl : mm_F) (n : Nat) (y0 : Int64) (h : mm_H) :
  mm_r164_0 E cl (n + 1) y0 h =
  mm_r164_7 E cl n y0 (mm_j 0) (mm_j 100000) none none h := (rfl)
set_option maxRecDepth 20000 in
set_option maxHeartbeats 4000000 in
theorem mm_e164_7 (E : mm_E) (cl : mm_F) (n : Nat) (y0 : Int64) (y2 : Int64) (y4 : Int64) (o6 : Option Value) (o7 : Option Value) (h : mm_H) :
  mm_r164_7 E cl (n + 1) y0 y2 y4 o6 o7 h =
  (mm_br ((mm_i 0) ≤ (lg_cmp y2 y4)) (
  some (.inl (some (.int (Int64.toInt32 y2))), h)) (
  (mm_nzj (mm_j 2) (
    (mm_br ((lg_cmp (((mm_j 10000) * ((y2 + y4) / (mm_j 2))) * ((y2 + y4) / (mm_j 2))) y0) < (mm_i 0)) (
    mm_r164_7 E cl n y0 (((y2 + y4) / (mm_j 2)) + (mm_j 1)) y4 (some (.long ((y2 + y4) / (mm_j 2)))) none h) (
    mm_r164_7 E cl n y0 y2 ((y2 + y4) / (mm_j 2)) (some (.long ((y2 + y4) / (mm_j 2)))) none h)))))) := (rfl)
-- Mod.root
noncomputable def mm_r165_0 (E : mm_E) (cl : mm_F) (n : Nat) (a0 : Nat) (x1 : Int32) (x2 : Int32) (h : mm_H) : mm_R := mm_run E cl mm_m165 n 0 [some (.ref a0), some (.int x1), some (.int x2)] [] h
set_option maxRecDepth 20000 in
set_option maxHeartbeats 4000000 in
theorem mm_e165_0 (E : mm_E) (cl : mm_F) (n : Nat) (a0 : Nat) (x1 : Int32) (x2 : Int32) (h : mm_H) :
  mm_r165_0 E cl (n + 1) a0 x1 x2 h =
  mm_gR h a0 9 1 fun p_1 =>
  mm_rI E h p_1 (mm_i 1) fun v_2 =>
  mm_gR h a0 9 1 fun p_3 =>
  mm_rI E h p_3 (mm_i 1) fun v_4 =>
  mm_cI [] (cl 162 [.ref a0, .int x1, .int (mm_i 4)] h) fun v_6 h_5 =>
  mm_cI [] (cl 164 [.long ((((Int32.toInt64 v_2) * (Int32.toInt64 v_4)) * (Int32.toInt64 v_6)) * (Int32.toInt64 x2))] h_5) fun v_8 h_7 =>
  some (.inl (some (.int v_8)), h_7) := (rfl)
-- Mod.boundOf
noncomputable def mm_r166_0 (E : mm_E) (cl : mm_F) (n : Nat) (a0 : Nat) (x1 : Int32) (x2 : Int32) (h : mm_H) : mm_R := mm_run E cl mm_m166 n 0 [some (.ref a0), some (.int x1), some (.int x2)] [] h
set_option maxRecDepth 20000 in
set_option maxHeartbeats 4000000 in
theorem mm_e166_0 (E : mm_E) (cl : mm_F) (n : Nat) (a0 : Nat) (x1 : Int32) (x2 : Int32) (h : mm_H) :
  mm_r166_0 E cl (n + 1) a0 x1 x2 h =
  mm_cI [] (cl 162 [.ref a0, .int x1, .int (mm_i 3)] h) fun v_2 h_1 =>
  mm_cI [] (cl 165 [.ref a0, .int x1, .int x2] h_1) fun v_4 h_3 =>
  some (.inl (some (.int ((x2 * v_2) + v_4))), h_3) := (rfl)
-- Mod.bound
noncomputable def mm_r167_0 (E : mm_E) (cl : mm_F) (n : Nat) (a0 : Nat) (x1 : Int32) (x2 : Int32) (x3 : Int32) (h : mm_H) : mm_R := mm_run E cl mm_m167 n 0 [some (.ref a0), some (.int x1), some (.int x2), some (.int x3)] [] h
noncomputable def mm_r167_38 (E : mm_E) (cl : mm_F) (n : Nat) (a0 : Nat) (x1 : Int32) (x2 : Int32) (x3 : Int32) (b0 : Nat) (s1 : Int32) (h : mm_H) : mm_R := mm_run E cl mm_m167 n 38 [some (.ref a0), some (.int x1), some (.int x2), some (.int x3)] [.int s1, .ref b0] h
set_option maxRecDepth 20000 in
set_option maxHeartbeats 4000000 in
theorem mm_e167_0 (E : mm_E) (cl : mm_F) (n : Nat) (a0 : Nat) (x1 : Int32) (x2 : Int32) (x3 : Int32) (h : mm_H) :
  mm_r167_0 E cl (n + 1) a0 x1 x2 x3 h =
  mm_cI [] (cl 151 [.ref a0, .int x1] h) fun v_2 h_1 =>
  (mm_br (v_2 = (mm_i 0)) (
  mm_r167_38 E cl n a0 x1 x2 x3 a0 (mm_i 1) h_1) (
  mm_cI [] (cl 147 [.int x2, .int (mm_i 0), .int (mm_i 1)] h_1) fun v_4 h_3 =>
    (mm_br (v_4 = (mm_i 0)) (
    mm_r167_38 E cl n a0 x1 x2 x3 a0 (mm_i 1) h_3) (
    mm_cI [] (cl 147 [.int x3, .int (mm_i 0), .int (mm_i 999)] h_3) fun v_6 h_5 =>
      (mm_br (v_6 = (mm_i 0)) (
      mm_r167_38 E cl n a0 x1 x2 x3 a0 (mm_i 2) h_5) (
      mm_r167_38 E cl n a0 x1 x2 x3 a0 (mm_i 0) h_5)))))) := (rfl)
set_option maxRecDepth 20000 in
set_option maxHeartbeats 4000000 in
theorem mm_e167_38 (E : mm_E) (cl : mm_F) (n : Nat) (a0 : Nat) (x1 : Int32) (x2 : Int32) (x3 : Int32) (b0 : Nat) (s1 : Int32) (h : mm_H) :
  mm_r167_38 E cl (n + 1) a0 x1 x2 x3 b0 s1 h =
  mm_pF h b0 9 0 (.int s1) fun h_1 =>
  mm_gI h_1 a0 9 0 fun v_2 =>
  (mm_br (v_2 ≤ (mm_i 0)) (
  (mm_br (x2 = (mm_i 0)) (
    mm_cI [] (cl 165 [.ref a0, .int x1, .int x3] h_1) fun v_6 h_5 =>
      some (.inl (some (.int v_6)), h_5)) (
    mm_cI [] (cl 166 [.ref a0, .int x1, .int x3] h_1) fun v_4 h_3 =>
      some (.inl (some (.int v_4)), h_3)))) (
  some (.inl (some (.int (mm_i 0))), h_1))) := (rfl)
-- Mod.count
noncomputable def mm_r168_0 (E : mm_E) (cl : mm_F) (n : Nat) (a0 : Nat) (x1 : Int32) (h : mm_H) : mm_R := mm_run E cl mm_m168 n 0 [some (.ref a0), some (.int x1), none, none] [] h
noncomputable def mm_r168_83 (E : mm_E) (cl : mm_F) (n : Nat) (a0 : Nat) (x1 : Int32) (x2 : Int32) (x3 : Int32) (h : mm_H) : mm_R := mm_run E cl mm_m168 n 83 [some (.ref a0), some (.int x1), some (.int x2), some (.int x3)] [] h
set_option maxRecDepth 20000 in
set_option maxHeartbeats 4000000 in
theorem mm_e168_0 (E : mm_E) (cl : mm_F) (n : Nat) (a0 : Nat) (x1 : Int32) (h : mm_H) :
  mm_r168_0 E cl (n + 1) a0 x1 h =
  mm_pF h a0 9 0 (.int (mm_i 0)) fun h_1 =>
  (mm_br (x1 = (mm_i 0)) (
  mm_cI [] (cl 150 [.ref a0] h_1) fun v_15 h_14 =>
    some (.inl (some (.int v_15)), h_14)) (
  (mm_br (x1 = (mm_i 1)) (
  mm_gR h_1 a0 9 1 fun p_12 =>
    mm_rI E h_1 p_12 (mm_i 2) fun v_13 =>
    some (.inl (some (.int v_13)), h_1)) (
  (mm_br (x1 = (mm_i 2)) (
  mm_gR h_1 a0 9 1 fun p_10 =>
    mm_rI E h_1 p_10 (mm_i 1) fun v_11 =>
    some (.inl (some (.int v_11)), h_1)) (
  (mm_br (x1 = (mm_i 3)) (
  mm_cI [] (cl 150 [.ref a0] h_1) fun v_7 h_6 =>
    mm_gR h_6 a0 9 1 fun p_8 =>
    mm_rI E h_6 p_8 (mm_i 2) fun v_9 =>
    some (.inl (some (.int (v_7 - v_9))), h_6)) (
  (mm_br (x1 = (mm_i 4)) (
  mm_r168_83 E cl n a0 x1 (mm_i 0) (mm_i 0) h_1) (
  (mm_br (x1 = (mm_i 5)) (
  mm_gI h_1 a0 9 4 fun v_5 =>
    some (.inl (some (.int v_5)), h_1)) (
  (mm_br (x1 = (mm_i 6)) (
  mm_gI h_1 a0 9 26 fun v_4 =>
    some (.inl (some (.int v_4)), h_1)) (
  mm_cI [] (cl 146 [.ref a0, .int (mm_i 1)] h_1) fun v_3 h_2 =>
  some (.inl (some (.int v_3)), h_2))))))))))))))) := (rfl)
set_option maxRecDepth 20000 in
set_option maxHeartbeats 4000000 in
theorem mm_e168_83 (E : mm_E) (cl : mm_F) (n : Nat) (a0 : Nat) (x1 : Int32) (x2 : Int32) (x3 : Int32) (h : mm_H) :
  mm_r168_83 E cl (n + 1) a0 x1 x2 x3 h =
  mm_cI [] (cl 150 [.ref a0] h) fun v_2 h_1 =>
  (mm_br (v_2 ≤ x3) (
  some (.inl (some (.int x2)), h_1)) (
  mm_cI [] (cl 152 [.ref a0, .int x3, .int (mm_i 6)] h_1) fun v_4 h_3 =>
    (mm_br (v_4 = (mm_i (-1))) (
    mm_r168_83 E cl n a0 x1 (x2 + (mm_i 0)) (x3 + (mm_i 1)) h_3) (
    mm_r168_83 E cl n a0 x1 (x2 + (mm_i 1)) (x3 + (mm_i 1)) h_3)))) := (rfl)
-- Mod.letter
noncomputable def mm_r169_0 (E : mm_E) (cl : mm_F) (n : Nat) (a0 : Nat) (x1 : Int32) (x2 : Int32) (h : mm_H) : mm_R := mm_run E cl mm_m169 n 0 [some (.ref a0), some (.int x1), some (.int x2)] [] h
noncomputable def mm_r169_22 (E : mm_E) (cl : mm_F) (n : Nat) (a0 : Nat) (x1 : Int32) (x2 : Int32) (h : mm_H) : mm_R := mm_run E cl mm_m169 n 22 [some (.ref a0), some (.int x1), some (.int x2)] [] h
noncomputable def mm_r169_39 (E : mm_E) (cl : mm_F) (n : Nat) (a0 : Nat) (x1 : Int32) (x2 : Int32) (h : mm_H) : mm_R := mm_run E cl mm_m169 n 39 [some (.ref a0), some (.int x1), some (.int x2)] [] h
set_option maxRecDepth 20000 in
set_option maxHeartbeats 4000000 in
theorem mm_e169_0 (E : mm_E) (cl : mm_F) (n : Nat) (a0 : Nat) (x1 : Int32) (x2 : Int32) (h : mm_H) :
  mm_r169_0 E cl (n + 1) a0 x1 x2 h =
  mm_pF h a0 9 0 (.int (mm_i 0)) fun h_1 =>
  mm_cI [] (cl 151 [.ref a0, .int x1] h_1) fun v_3 h_2 =>
  (mm_br (v_3 = (mm_i 0)) (
  mm_r169_39 E cl n a0 x1 x2 h_2) (
  mm_cI [] (cl 147 [.int x2, .int (mm_i 0), .int (mm_i 5)] h_2) fun v_5 h_4 =>
    (mm_br (v_5 = (mm_i 0)) (
    mm_r169_39 E cl n a0 x1 x2 h_4) (
    mm_r169_22 E cl n a0 x1 x2 h_4)))) := (rfl)
set_option maxRecDepth 20000 in
set_option maxHeartbeats 4000000 in
theorem mm_e169_22 (E : mm_E) (cl : mm_F) (n : Nat) (a0 : Nat) (x1 : Int32) (x2 : Int32) (h : mm_H) :
  mm_r169_22 E cl (n + 1) a0 x1 x2 h =
  mm_gR h a0 9 1 fun p_1 =>
  mm_rI E h p_1 (((mm_i 87) + ((mm_i 6) * x1)) + x2) fun v_2 =>
  some (.inl (some (.int v_2)), h) := (rfl)
set_option maxRecDepth 20000 in
set_option maxHeartbeats 4000000 in
theorem mm_e169_39 (E : mm_E) (cl : mm_F) (n : Nat) (a0 : Nat) (x1 : Int32) (x2 : Int32) (h : mm_H) :
  mm_r169_39 E cl (n + 1) a0 x1 x2 h =
  mm_cI [] (cl 146 [.ref a0, .int (mm_i 1)] h) fun v_2 h_1 =>
  some (.inl (some (.int v_2)), h_1) := (rfl)
-- Mod.stage
noncomputable def mm_r170_0 (E : mm_E) (cl : mm_F) (n : Nat) (a0 : Nat) (x1 : Int32) (x2 : Int32) (h : mm_H) : mm_R := mm_run E cl mm_m170 n 0 [some (.ref a0), some (.int x1), some (.int x2)] [] h
set_option maxRecDepth 20000 in
set_option maxHeartbeats 4000000 in
theorem mm_e170_0 (E : mm_E) (cl : mm_F) (n : Nat) (a0 : Nat) (x1 : Int32) (x2 : Int32) (h : mm_H) :
  mm_r170_0 E cl (n + 1) a0 x1 x2 h =
  mm_pF h a0 9 0 (.int (mm_i 0)) fun h_1 =>
  mm_cI [] (cl 151 [.ref a0, .int x1] h_1) fun v_3 h_2 =>
  (mm_br (v_3 = (mm_i 0)) (
  mm_cI [] (cl 146 [.ref a0, .int (mm_i 1)] h_2) fun v_5 h_4 =>
    some (.inl (some (.int v_5)), h_4)) (
  mm_cI [] (cl 147 [.int x2, .int (mm_i 0), .int (mm_i 11)] h_2) fun v_7 h_6 =>
    (mm_br (v_7 = (mm_i 0)) (
    mm_cI [] (cl 146 [.ref a0, .int (mm_i 1)] h_6) fun v_21 h_20 =>
      some (.inl (some (.int v_21)), h_20)) (
    (mm_br (x2 = (mm_i 7)) (
      mm_cI [] (cl 162 [.ref a0, .int x1, .int (mm_i 3)] h_6) fun v_19 h_18 =>
        some (.inl (some (.int v_19)), h_18)) (
      (mm_br (x2 = (mm_i 8)) (
      mm_cI [] (cl 162 [.ref a0, .int x1, .int (mm_i 4)] h_6) fun v_17 h_16 =>
        some (.inl (some (.int v_17)), h_16)) (
      (mm_br (x2 = (mm_i 9)) (
      mm_cI [] (cl 163 [.ref a0, .int x1] h_6) fun v_15 h_14 =>
        some (.inl (some (.int v_15)), h_14)) (
      (mm_br (x2 = (mm_i 10)) (
      mm_cI [] (cl 157 [.ref a0, .int x1] h_6) fun v_13 h_12 =>
        some (.inl (some (.int v_13)), h_12)) (
      (mm_br (x2 = (mm_i 11)) (
      mm_cI [] (cl 158 [.ref a0, .int x1] h_6) fun v_11 h_10 =>
        some (.inl (some (.int v_11)), h_10)) (
      mm_cI [] (cl 152 [.ref a0, .int x1, .int x2] h_6) fun v_9 h_8 =>
      some (.inl (some (.int v_9)), h_8))))))))))))))) := (rfl)
-- Mod.keep
noncomputable def mm_r171_0 (E : mm_E) (cl : mm_F) (n : Nat) (a0 : Nat) (h : mm_H) : mm_R := mm_run E cl mm_m171 n 0 [some (.ref a0), none] [] h
noncomputable def mm_r171_13 (E : mm_E) (cl : mm_F) (n : Nat) (a0 : Nat) (x1 : Int32) (h : mm_H) : mm_R := mm_run E cl mm_m171 n 13 [some (.ref a0), some (.int x1)] [] h
noncomputable def mm_r171_54 (E : mm_E) (cl : mm_F) (n : Nat) (a0 : Nat) (x1 : Int32) (h : mm_H) : mm_R := mm_run E cl mm_m171 n 54 [some (.ref a0), some (.int x1)] [] h
set_option maxRecDepth 20000 in
set_option maxHeartbeats 4000000 in
theorem mm_e171_0 (E : mm_E) (cl : mm_F) (n : Nat) (a0 : Nat) (h : mm_H) :
  mm_r171_0 E cl (n + 1) a0 h =
  mm_gI h a0 9 4 fun v_1 =>
  (mm_br (v_1 = (mm_i 20)) (
  mm_r171_13 E cl n a0 (mm_i 190) h) (
  mm_r171_54 E cl n a0 (mm_i 0) h)) := (rfl)
set_option maxRecDepth 20000 in
set_option maxHeartbeats 4000000 in
theorem mm_e171_13 (E : mm_E) (cl : mm_F) (n : Nat) (a0 : Nat) (x1 : Int32) (h : mm_H) :
  mm_r171_13 E cl (n + 1) a0 x1 h =
  (mm_br ((mm_i 3800) ≤ x1) (
  mm_gI h a0 9 4 fun v_1 =>
    mm_pF h a0 9 4 (.int (v_1 - (mm_i 1))) fun h_2 =>
    mm_r171_54 E cl n a0 (mm_i 0) h_2) (
  mm_gR h a0 9 3 fun p_3 =>
    mm_gR h a0 9 3 fun p_4 =>
    mm_rI E h p_4 x1 fun v_5 =>
    mm_wI h p_3 (x1 - (mm_i 190)) v_5 fun h_6 =>
    mm_r171_13 E cl n a0 (x1 + (mm_i 1)) h_6)) := (rfl)
set_option maxRecDepth 20000 in
set_option maxHeartbeats 4000000 in
theorem mm_e171_54 (E : mm_E) (cl : mm_F) (n : Nat) (a0 : Nat) (x1 : Int32) (h : mm_H) :
  mm_r171_54 E cl (n + 1) a0 x1 h =
  (mm_br ((mm_i 190) ≤ x1) (
  mm_gI h a0 9 4 fun v_1 =>
    mm_pF h a0 9 4 (.int (v_1 + (mm_i 1))) fun h_2 =>
    some (.inl none, h_2)) (
  mm_gR h a0 9 3 fun p_3 =>
    mm_gI h a0 9 4 fun v_4 =>
    mm_gR h a0 9 1 fun p_5 =>
    mm_rI E h p_5 x1 fun v_6 =>
    mm_wI h p_3 (((mm_i 190) * v_4) + x1) v_6 fun h_7 =>
    mm_r171_54 E cl n a0 (x1 + (mm_i 1)) h_7)) := (rfl)
-- Mod.mostOf
noncomputable def mm_r172_0 (E : mm_E) (cl : mm_F) (n : Nat) (x0 : Int32) (h : mm_H) : mm_R := mm_run E cl mm_m172 n 0 [some (.int x0)] [] h
set_option maxRecDepth 20000 in
set_option maxHeartbeats 4000000 in
theorem mm_e172_0 (E : mm_E) (cl : mm_F) (n : Nat) (x0 : Int32) (h : mm_H) :
  mm_r172_0 E cl (n + 1) x0 h =
  (mm_br (x0 = (mm_i 0)) (
  some (.inl (some (.int (mm_i 9))), h)) (
  (mm_br (x0 = (mm_i 1)) (
  some (.inl (some (.int (mm_i 999))), h)) (
  (mm_br (x0 = (mm_i 2)) (
  some (.inl (some (.int (mm_i 9))), h)) (
  (mm_br (x0 = (mm_i 3)) (
  some (.inl (some (.int (mm_i 99))), h)) (
  (mm_br (x0 = (mm_i 4)) (
  some (.inl (some (.int (mm_i 9999))), h)) (
  (mm_br (x0 = (mm_i 5)) (
  some (.inl (some (.int (mm_i 20))), h)) (
  some (.inl (some (.int (mm_i 400))), h))))))))))))) := (rfl)
-- Mod.change
noncomputable def mm_r173_0 (E : mm_E) (cl : mm_F) (n : Nat) (a0 : Nat) (x1 : Int32) (x2 : Int32) (x3 : Int32) (h : mm_H) : mm_R := mm_run E cl mm_m173 n 0 [some (.ref a0), some (.int x1), some (.int x2), some (.int x3), none, none] [] h
noncomputable def mm_r173_55 (E : mm_E) (cl : mm_F) (n : Nat) (a0 : Nat) (x1 : Int32) (x2 : Int32) (x3 : Int32) (o4 : Option Value) (o5 : Option Value) (b0 : Nat) (s1 : Int32) (h : mm_H) : mm_R := mm_run E cl mm_m173 n 55 [some (.ref a0), some (.int x1), some (.int x2), some (.int x3), o4, o5] [.int s1, .ref b0] h
noncomputable def mm_r173_100 (E : mm_E) (cl : mm_F) (n : Nat) (a0 : Nat) (x1 : Int32) (x2 : Int32) (x3 : Int32) (x4 : Int32) (x5 : Int32) (h : mm_H) : mm_R := mm_run E cl mm_m173 n 100 [some (.ref a0), some (.int x1), some (.int x2), some (.int x3), some (.int x4), some (.int x5)] [] h
set_option maxRecDepth 20000 in
set_option maxHeartbeats 4000000 in
theorem mm_e173_0 (E : mm_E) (cl : mm_F) (n : Nat) (a0 : Nat) (x1 : Int32) (x2 : Int32) (x3 : Int32) (h : mm_H) :
  mm_r173_0 E cl (n + 1) a0 x1 x2 x3 h =
  mm_cI [] (cl 147 [.int x2, .int (mm_i 0), .int (mm_i 6)] h) fun v_2 h_1 =>
  (mm_br (v_2 = (mm_i 0)) (
  mm_r173_55 E cl n a0 x1 x2 x3 none none a0 (mm_i 1) h_1) (
  (mm_br ((mm_i 6) ≤ x2) (
    (mm_br (x2 = (mm_i 5)) (
      mm_cI [] (cl 172 [.int x2] h_1) fun v_8 h_7 =>
        mm_cI [] (cl 147 [.int x3, .int (mm_i (-1)), .int v_8] h_7) fun v_10 h_9 =>
        (mm_br (v_10 = (mm_i 0)) (
        mm_r173_55 E cl n a0 x1 x2 x3 none none a0 (mm_i 2) h_9) (
        mm_r173_55 E cl n a0 x1 x2 x3 none none a0 (mm_i 0) h_9))) (
      mm_cI [] (cl 172 [.int x2] h_1) fun v_4 h_3 =>
        mm_cI [] (cl 147 [.int x3, .int (mm_i 0), .int v_4] h_3) fun v_6 h_5 =>
        (mm_br (v_6 = (mm_i 0)) (
        mm_r173_55 E cl n a0 x1 x2 x3 none none a0 (mm_i 2) h_5) (
        mm_r173_55 E cl n a0 x1 x2 x3 none none a0 (mm_i 0) h_5))))) (
    mm_cI [] (cl 151 [.ref a0, .int x1] h_1) fun v_12 h_11 =>
      (mm_br (v_12 = (mm_i 0)) (
      mm_r173_55 E cl n a0 x1 x2 x3 none none a0 (mm_i 1) h_11) (
      (mm_br (x2 = (mm_i 5)) (
        mm_cI [] (cl 172 [.int x2] h_11) fun v_18 h_17 =>
          mm_cI [] (cl 147 [.int x3, .int (mm_i (-1)), .int v_18] h_17) fun v_20 h_19 =>
          (mm_br (v_20 = (mm_i 0)) (
          mm_r173_55 E cl n a0 x1 x2 x3 none none a0 (mm_i 2) h_19) (
          mm_r173_55 E cl n a0 x1 x2 x3 none none a0 (mm_i 0) h_19))) (
        mm_cI [] (cl 172 [.int x2] h_11) fun v_14 h_13 =>
          mm_cI [] (cl 147 [.int x3, .int (mm_i 0), .int v_14] h_13) fun v_16 h_15 =>
          (mm_br (v_16 = (mm_i 0)) (
          mm_r173_55 E cl n a0 x1 x2 x3 none none a0 (mm_i 2) h_15) (
          mm_r173_55 E cl n a0 x1 x2 x3 none none a0 (mm_i 0) h_15)))))))))) := (rfl)
set_option maxRecDepth 20000 in
set_option maxHeartbeats 4000000 in
theorem mm_e173_55 (E : mm_E) (cl : mm_F) (n : Nat) (a0 : Nat) (x1 : Int32) (x2 : Int32) (x3 : Int32) (o4 : Option Value) (o5 : Option Value) (b0 : Nat) (s1 : Int32) (h : mm_H) :
  mm_r173_55 E cl (n + 1) a0 x1 x2 x3 o4 o5 b0 s1 h =
  mm_pF h b0 9 0 (.int s1) fun h_1 =>
  mm_gI h_1 a0 9 0 fun v_2 =>
  (mm_br (v_2 ≤ (mm_i 0)) (
  mm_cV [] (cl 171 [.ref a0] h_1) fun h_3 =>
    (mm_br (x2 = (mm_i 6)) (
    mm_gR h_3 a0 9 1 fun p_6 =>
      mm_rI E h_3 p_6 (mm_i 1) fun v_7 =>
      mm_r173_100 E cl n a0 x1 x2 x3 (mm_i 1) v_7 h_3) (
    mm_gR h_3 a0 9 1 fun p_4 =>
      mm_rI E h_3 p_4 (((mm_i 3) + ((mm_i 7) * x1)) + x2) fun v_5 =>
      mm_r173_100 E cl n a0 x1 x2 x3 (((mm_i 3) + ((mm_i 7) * x1)) + x2) v_5 h_3))) (
  some (.inl (some (.int (mm_i 0))), h_1))) := (rfl)
set_option maxRecDepth 20000 in
set_option maxHeartbeats 4000000 in
theorem mm_e173_100 (E : mm_E) (cl : mm_F) (n : Nat) (a0 : Nat) (x1 : Int32) (x2 : Int32) (x3 : Int32) (x4 : Int32) (x5 : Int32) (h : mm_H) :
  mm_r173_100 E cl (n + 1) a0 x1 x2 x3 x4 x5 h =
  mm_gR h a0 9 1 fun p_1 =>
  mm_wI h p_1 x4 x3 fun h_2 =>
  some (.inl (some (.int x5)), h_2) := (rfl)
-- Mod.add
noncomputable def mm_r174_0 (E : mm_E) (cl : mm_F) (n : Nat) (a0 : Nat) (x1 : Int32) (x2 : Int32) (x3 : Int32) (x4 : Int32) (h : mm_H) : mm_R := mm_run E cl mm_m174 n 0 [some (.ref a0), some (.int x1), some (.int x2), some (.int x3), some (.int x4), none, none] [] h
noncomputable def mm_r174_46 (E : mm_E) (cl : mm_F) (n : Nat) (a0 : Nat) (x1 : Int32) (x2 : Int32) (x3 : Int32) (x4 : Int32) (o5 : Option Value) (o6 : Option Value) (h : mm_H) : mm_R := mm_run E cl mm_m174 n 46 [some (.ref a0), some (.int x1), some (.int x2), some (.int x3), some (.int x4), o5, o6] [] h
noncomputable def mm_r174_71 (E : mm_E) (cl : mm_F) (n : Nat) (a0 : Nat) (x1 : Int32) (x2 : Int32) (x3 : Int32) (x4 : Int32) (x5 : Int32) (x6 : Int32) (h : mm_H) : mm_R := mm_run E cl mm_m174 n 71 [some (.ref a0), some (.int x1), some (.int x2), some (.int x3), some (.int x4), some (.int x5), some (.int x6)] [] h
noncomputable def mm_r174_138 (E : mm_E) (cl : mm_F) (n : Nat) (a0 : Nat) (x1 : Int32) (x2 : Int32) (x3 : Int32) (x4 : Int32) (x5 : Int32) (x6 : Int32) (h : mm_H) : mm_R := mm_run E cl mm_m174 n 138 [some (.ref a0), some (.int x1), some (.int x2), some (.int x3), some (.int x4), some (.int x5), some (.int x6)] [] h
set_option maxRecDepth 20000 in
set_option maxHeartbeats 4000000 in
theorem mm_e174_0 (E : mm_E) (cl : mm_F) (n : Nat) (a0 : Nat) (x1 : Int32) (x2 : Int32) (x3 : Int32) (x4 : Int32) (h : mm_H) :
  mm_r174_0 E cl (n + 1) a0 x1 x2 x3 x4 h =
  mm_pF h a0 9 0 (.int (mm_i 0)) fun h_1 =>
  mm_cI [] (cl 150 [.ref a0] h_1) fun v_3 h_2 =>
  (mm_br (v_3 = (mm_i 12)) (
  some (.inl (some (.int (mm_i (-1)))), h_2)) (
  mm_cI [] (cl 151 [.ref a0, .int x1] h_2) fun v_5 h_4 =>
    (mm_br (v_5 = (mm_i 0)) (
    some (.inl (some (.int (mm_i (-1)))), h_4)) (
    mm_cI [] (cl 147 [.int x3, .int (mm_i 0), .int (mm_i 9)] h_4) fun v_7 h_6 =>
      (mm_br (v_7 = (mm_i 0)) (
      some (.inl (some (.int (mm_i (-1)))), h_6)) (
      mm_cI [] (cl 147 [.int x4, .int (mm_i 0), .int (mm_i 999)] h_6) fun v_9 h_8 =>
        (mm_br (v_9 = (mm_i 0)) (
        some (.inl (some (.int (mm_i (-1)))), h_8)) (
        mm_r174_46 E cl n a0 x1 x2 x3 x4 none none h_8)))))))) := (rfl)
set_option maxRecDepth 20000 in
set_option maxHeartbeats 4000000 in
theorem mm_e174_46 (E : mm_E) (cl : mm_F) (n : Nat) (a0 : Nat) (x1 : Int32) (x2 : Int32) (x3 : Int32) (x4 : Int32) (o5 : Option Value) (o6 : Option Value) (h : mm_H) :
  mm_r174_46 E cl (n + 1) a0 x1 x2 x3 x4 o5 o6 h =
  mm_cV [] (cl 171 [.ref a0] h) fun h_1 =>
  mm_cI [] (cl 150 [.ref a0] h_1) fun v_3 h_2 =>
  mm_gR h_2 a0 9 1 fun p_4 =>
  mm_cV [] (cl 153 [.ref p_4, .int v_3, .int x3, .int x4] h_2) fun h_5 =>
  mm_r174_71 E cl n a0 x1 x2 x3 x4 v_3 (mm_i 0) h_5 := (rfl)
set_option maxRecDepth 20000 in
set_option maxHeartbeats 4000000 in
theorem mm_e174_71 (E : mm_E) (cl : mm_F) (n : Nat) (a0 : Nat) (x1 : Int32) (x2 : Int32) (x3 : Int32) (x4 : Int32) (x5 : Int32) (x6 : Int32) (h : mm_H) :
  mm_r174_71 E cl (n + 1) a0 x1 x2 x3 x4 x5 x6 h =
  (mm_br ((mm_i 6) ≤ x6) (
  mm_gR h a0 9 1 fun p_1 =>
    mm_rI E h p_1 (mm_i 0) fun v_2 =>
    mm_wI h p_1 (mm_i 0) (v_2 + (mm_i 1)) fun h_3 =>
    (mm_br (x2 = (mm_i 0)) (
    mm_gR h_3 a0 9 1 fun p_4 =>
      mm_cV [] (cl 154 [.ref p_4, .int x1, .int x5] h_3) fun h_5 =>
      mm_r174_138 E cl n a0 x1 x2 x3 x4 x5 x6 h_5) (
    mm_gR h_3 a0 9 1 fun p_6 =>
      mm_cV [] (cl 154 [.ref p_6, .int x5, .int x1] h_3) fun h_7 =>
      mm_r174_138 E cl n a0 x1 x2 x3 x4 x5 x6 h_7))) (
  mm_gR h a0 9 1 fun p_8 =>
    mm_wI h p_8 (((mm_i 87) + ((mm_i 6) * x5)) + x6) (mm_i 0) fun h_9 =>
    mm_r174_71 E cl n a0 x1 x2 x3 x4 x5 (x6 + (mm_i 1)) h_9)) := (rfl)
set_option maxRecDepth 20000 in
set_option maxHeartbeats 4000000 in
theorem mm_e174_138 (E : mm_E) (cl : mm_F) (n : Nat) (a0 : Nat) (x1 : Int32) (x2 : Int32) (x3 : Int32) (x4 : Int32) (x5 : Int32) (x6 : Int32) (h : mm_H) :
  mm_r174_138 E cl (n + 1) a0 x1 x2 x3 x4 x5 x6 h =
  mm_cV [] (cl 177 [.ref a0, .int x5] h) fun h_1 =>
  some (.inl (some (.int x5)), h_1) := (rfl)
-- Mod.supply
noncomputable def mm_r175_0 (E : mm_E) (cl : mm_F) (n : Nat) (a0 : Nat) (x1 : Int32) (x2 : Int32) (h : mm_H) : mm_R := mm_run E cl mm_m175 n 0 [some (.ref a0), some (.int x1), some (.int x2)] [] h
noncomputable def mm_r175_42 (E : mm_E) (cl : mm_F) (n : Nat) (a0 : Nat) (x1 : Int32) (x2 : Int32) (h : mm_H) : mm_R := mm_run E cl mm_m175 n 42 [some (.ref a0), some (.int x1), some (.int x2)] [] h
set_option maxRecDepth 20000 in
set_option maxHeartbeats 4000000 in
theorem mm_e175_0 (E : mm_E) (cl : mm_F) (n : Nat) (a0 : Nat) (x1 : Int32) (x2 : Int32) (h : mm_H) :
  mm_r175_0 E cl (n + 1) a0 x1 x2 h =
  mm_pF h a0 9 0 (.int (mm_i 0)) fun h_1 =>
  mm_cI [] (cl 151 [.ref a0, .int x1] h_1) fun v_3 h_2 =>
  (mm_br (v_3 = (mm_i 0)) (
  some (.inl (some (.int (mm_i (-1)))), h_2)) (
  mm_cI [] (cl 151 [.ref a0, .int x2] h_2) fun v_5 h_4 =>
    (mm_br (v_5 = (mm_i 0)) (
    some (.inl (some (.int (mm_i (-1)))), h_4)) (
    mm_gR h_4 a0 9 1 fun p_6 =>
      mm_cI [] (cl 161 [.ref p_6, .int x1] h_4) fun v_8 h_7 =>
      mm_cI [] (cl 159 [.int v_8, .int x2] h_7) fun v_10 h_9 =>
      (mm_br (v_10 = (mm_i 0)) (
      mm_cV [] (cl 171 [.ref a0] h_9) fun h_11 =>
        mm_r175_42 E cl n a0 x1 x2 h_11) (
      some (.inl (some (.int (mm_i (-1)))), h_9))))))) := (rfl)
set_option maxRecDepth 20000 in
set_option maxHeartbeats 4000000 in
theorem mm_e175_42 (E : mm_E) (cl : mm_F) (n : Nat) (a0 : Nat) (x1 : Int32) (x2 : Int32) (h : mm_H) :
  mm_r175_42 E cl (n + 1) a0 x1 x2 h =
  mm_gR h a0 9 1 fun p_1 =>
  mm_cV [] (cl 154 [.ref p_1, .int x1, .int x2] h) fun h_2 =>
  mm_gR h_2 a0 9 1 fun p_3 =>
  mm_rI E h_2 p_3 (mm_i 2) fun v_4 =>
  some (.inl (some (.int v_4)), h_2) := (rfl)
-- Mod.pin
noncomputable def mm_r176_0 (E : mm_E) (cl : mm_F) (n : Nat) (a0 : Nat) (x1 : Int32) (x2 : Int32) (h : mm_H) : mm_R := mm_run E cl mm_m176 n 0 [some (.ref a0), some (.int x1), some (.int x2), none] [] h
noncomputable def mm_r176_28 (E : mm_E) (cl : mm_F) (n : Nat) (a0 : Nat) (x1 : Int32) (x2 : Int32) (o3 : Option Value) (b0 : Nat) (s1 : Int32) (h : mm_H) : mm_R := mm_run E cl mm_m176 n 28 [some (.ref a0), some (.int x1), some (.int x2), o3] [.int s1, .ref b0] h
noncomputable def mm_r176_52 (E : mm_E) (cl : mm_F) (n : Nat) (a0 : Nat) (x1 : Int32) (x2 : Int32) (x3 : Int32) (h : mm_H) : mm_R := mm_run E cl mm_m176 n 52 [some (.ref a0), some (.int x1), some (.int x2), some (.int x3)] [] h
set_option maxRecDepth 20000 in
set_option maxHeartbeats 4000000 in
theorem mm_e176_0 (E : mm_E) (cl : mm_F) (n : Nat) (a0 : Nat) (x1 : Int32) (x2 : Int32) (h : mm_H) :
  mm_r176_0 E cl (n + 1) a0 x1 x2 h =
  mm_cI [] (cl 151 [.ref a0, .int x1] h) fun v_2 h_1 =>
  (mm_br (v_2 = (mm_i 0)) (
  mm_r176_28 E cl n a0 x1 x2 none a0 (mm_i 1) h_1) (
  mm_cI [] (cl 147 [.int x2, .int (mm_i (-1)), .int (mm_i 119)] h_1) fun v_4 h_3 =>
    (mm_br (v_4 = (mm_i 0)) (
    mm_r176_28 E cl n a0 x1 x2 none a0 (mm_i 2) h_3) (
    mm_r176_28 E cl n a0 x1 x2 none a0 (mm_i 0) h_3)))) := (rfl)
set_option maxRecDepth 20000 in
set_option maxHeartbeats 4000000 in
theorem mm_e176_28 (E : mm_E) (cl : mm_F) (n : Nat) (a0 : Nat) (x1 : Int32) (x2 : Int32) (o3 : Option Value) (b0 : Nat) (s1 : Int32) (h : mm_H) :
  mm_r176_28 E cl (n + 1) a0 x1 x2 o3 b0 s1 h =
  mm_pF h b0 9 0 (.int s1) fun h_1 =>
  mm_gI h_1 a0 9 0 fun v_2 =>
  (mm_br (v_2 ≤ (mm_i 0)) (
  mm_cV [] (cl 171 [.ref a0] h_1) fun h_3 =>
    mm_cI [] (cl 152 [.ref a0, .int x1, .int (mm_i 6)] h_3) fun v_5 h_4 =>
    mm_r176_52 E cl n a0 x1 x2 v_5 h_4) (
  some (.inl (some (.int (mm_i 0))), h_1))) := (rfl)
set_option maxRecDepth 20000 in
set_option maxHeartbeats 4000000 in
theorem mm_e176_52 (E : mm_E) (cl : mm_F) (n : Nat) (a0 : Nat) (x1 : Int32) (x2 : Int32) (x3 : Int32) (h : mm_H) :
  mm_r176_52 E cl (n + 1) a0 x1 x2 x3 h =
  mm_gR h a0 9 1 fun p_1 =>
  mm_wI h p_1 (((mm_i 3) + ((mm_i 7) * x1)) + (mm_i 6)) x2 fun h_2 =>
  some (.inl (some (.int x3)), h_2) := (rfl)
