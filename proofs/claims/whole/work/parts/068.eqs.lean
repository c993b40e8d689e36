/-! EQUATIONS of the runs, part 6 (by program: wip/whole/genpure.py) -/
-- Mod.leastFrom
noncomputable def mm_r202_0 (E : mm_E) (cl : mm_F) (n : Nat) (a0 : Nat) (x1 : Int32) (h : mm_H) : mm_R := mm_run E cl mm_m202 n 0 [some (.ref a0), some (.int x1), none, none] [] h
noncomputable def mm_r202_5 (E : mm_E) (cl : mm_F) (n : Nat) (a0 : Nat) (x1 : Int32) (x2 : Int32) (x3 : Int32) (h : mm_H) : mm_R := mm_run E cl mm_m202 n 5 [some (.ref a0), some (.int x1), some (.int x2), some (.int x3)] [] h
set_option maxRecDepth 20000 in
set_option maxHeartbeats 4000000 in
theorem mm_e202_0 (E : mm_E) (cl : mm_F) (n : Nat) (a0 : Nat) (x1 : Int32) (h : mm_H) :
  mm_r202_0 E cl (n + 1) a0 x1 h =
  mm_r202_5 E cl n a0 x1 (mm_i 1000000000) x1 h := (rfl)
set_option maxRecDepth 20000 in
set_option maxHeartbeats 4000000 in
theorem mm_e202_5 (E : mm_E) (cl : mm_F) (n : Nat) (a0 : Nat) (x1 : Int32) (x2 : Int32) (x3 : Int32) (h : mm_H) :
  mm_r202_5 E cl (n + 1) a0 x1 x2 x3 h =
  mm_gI h a0 9 15 fun v_1 =>
  (mm_br (v_1 < x3) (
  some (.inl (some (.int x2)), h)) (
  mm_gR h a0 9 10 fun p_2 =>
    mm_rI E h p_2 x3 fun v_3 =>
    mm_gR h a0 9 13 fun p_4 =>
    mm_rI E h p_4 x3 fun v_5 =>
    mm_cI [] (cl 191 [.int v_3, .int v_5] h) fun v_7 h_6 =>
    mm_r202_5 E cl n a0 x1 (mm_mn x2 v_7) (x3 + (mm_i 1)) h_6)) := (rfl)
-- Mod.layBest
noncomputable def mm_r203_0 (E : mm_E) (cl : mm_F) (n : Nat) (a0 : Nat) (h : mm_H) : mm_R := mm_run E cl mm_m203 n 0 [some (.ref a0), none, none, none, none] [] h
noncomputable def mm_r203_7 (E : mm_E) (cl : mm_F) (n : Nat) (a0 : Nat) (x1 : Int32) (x2 : Int32) (o3 : Option Value) (o4 : Option Value) (h : mm_H) : mm_R := mm_run E cl mm_m203 n 7 [some (.ref a0), some (.int x1), some (.int x2), o3, o4] [] h
noncomputable def mm_r203_37 (E : mm_E) (cl : mm_F) (n : Nat) (a0 : Nat) (x1 : Int32) (x2 : Int32) (x3 : Int32) (o4 : Option Value) (h : mm_H) : mm_R := mm_run E cl mm_m203 n 37 [some (.ref a0), some (.int x1), some (.int x2), some (.int x3), o4] [] h
noncomputable def mm_r203_67 (E : mm_E) (cl : mm_F) (n : Nat) (a0 : Nat) (x1 : Int32) (x2 : Int32) (x3 : Int32) (x4 : Int32) (h : mm_H) : mm_R := mm_run E cl mm_m203 n 67 [some (.ref a0), some (.int x1), some (.int x2), some (.int x3), some (.int x4)] [] h
noncomputable def mm_r203_105 (E : mm_E) (cl : mm_F) (n : Nat) (a0 : Nat) (x1 : Int32) (x2 : Int32) (o3 : Option Value) (o4 : Option Value) (h : mm_H) : mm_R := mm_run E cl mm_m203 n 105 [some (.ref a0), some (.int x1), some (.int x2), o3, o4] [] h
set_option maxRecDepth 20000 in
set_option maxHeartbeats 4000000 in
theorem mm_e203_0 (E : mm_E) (cl : mm_F) (n : Nat) (a0 : Nat) (h : mm_H) :
  mm_r203_0 E cl (n + 1) a0 h =
  mm_cI [] (cl 195 [.ref a0] h) fun v_2 h_1 =>
  mm_r203_7 E cl n a0 v_2 (mm_i 0) none none h_1 := (rfl)
set_option maxRecDepth 20000 in
set_option maxHeartbeats 4000000 in
theorem mm_e203_7 (E : mm_E) (cl : mm_F) (n : Nat) (a0 : Nat) (x1 : Int32) (x2 : Int32) (o3 : Option Value) (o4 : Option Value) (h : mm_H) :
  mm_r203_7 E cl (n + 1) a0 x1 x2 o3 o4 h =
  mm_cI [] (cl 150 [.ref a0] h) fun v_2 h_1 =>
  (mm_br (v_2 ≤ x2) (
  mm_r203_105 E cl n a0 x1 (mm_i 0) o3 o4 h_1) (
  mm_gR h_1 a0 9 16 fun p_3 =>
    mm_gR h_1 a0 9 1 fun p_4 =>
    mm_rI E h_1 p_4 (((mm_i 3) + ((mm_i 7) * x2)) + (mm_i 6)) fun v_5 =>
    mm_wI h_1 p_3 x2 v_5 fun h_6 =>
    mm_r203_37 E cl n a0 x1 x2 (((mm_i 3) + ((mm_i 7) * x2)) + (mm_i 6)) o4 h_6)) := (rfl)
set_option maxRecDepth 20000 in
set_option maxHeartbeats 4000000 in
theorem mm_e203_37 (E : mm_E) (cl : mm_F) (n : Nat) (a0 : Nat) (x1 : Int32) (x2 : Int32) (x3 : Int32) (o4 : Option Value) (h : mm_H) :
  mm_r203_37 E cl (n + 1) a0 x1 x2 x3 o4 h =
  mm_gR h a0 9 16 fun p_1 =>
  mm_rI E h p_1 x2 fun v_2 =>
  (mm_br (v_2 = (mm_i (-1))) (
  mm_gR h a0 9 1 fun p_7 =>
    mm_wI h p_7 x3 (mm_i 0) fun h_8 =>
    mm_r203_67 E cl n a0 x1 x2 x3 (mm_i 0) h_8) (
  mm_gR h a0 9 16 fun p_3 =>
    mm_rI E h p_3 x2 fun v_4 =>
    mm_gR h a0 9 1 fun p_5 =>
    mm_wI h p_5 x3 v_4 fun h_6 =>
    mm_r203_67 E cl n a0 x1 x2 x3 v_4 h_6)) := (rfl)
set_option maxRecDepth 20000 in
set_option maxHeartbeats 4000000 in
theorem mm_e203_67 (E : mm_E) (cl : mm_F) (n : Nat) (a0 : Nat) (x1 : Int32) (x2 : Int32) (x3 : Int32) (x4 : Int32) (h : mm_H) :
  mm_r203_67 E cl (n + 1) a0 x1 x2 x3 x4 h =
  mm_cI [] (cl 196 [.ref a0] h) fun v_2 h_1 =>
  (mm_br (v_2 = x1) (
  mm_gR h_1 a0 9 5 fun p_3 =>
    mm_wI h_1 p_3 x2 x4 fun h_4 =>
    mm_r203_7 E cl n a0 x1 (x2 + (mm_i 1)) (some (.int x3)) (some (.int x4)) h_4) (
  mm_gR h_1 a0 9 1 fun p_5 =>
    mm_wI h_1 p_5 x3 (x4 + (mm_i 1)) fun h_6 =>
    mm_r203_67 E cl n a0 x1 x2 x3 (x4 + (mm_i 1)) h_6)) := (rfl)
set_option maxRecDepth 20000 in
set_option maxHeartbeats 4000000 in
theorem mm_e203_105 (E : mm_E) (cl : mm_F) (n : Nat) (a0 : Nat) (x1 : Int32) (x2 : Int32) (o3 : Option Value) (o4 : Option Value) (h : mm_H) :
  mm_r203_105 E cl (n + 1) a0 x1 x2 o3 o4 h =
  mm_cI [] (cl 150 [.ref a0] h) fun v_2 h_1 =>
  (mm_br (v_2 ≤ x2) (
  some (.inl none, h_1)) (
  mm_gR h_1 a0 9 1 fun p_3 =>
    mm_gR h_1 a0 9 16 fun p_4 =>
    mm_rI E h_1 p_4 x2 fun v_5 =>
    mm_wI h_1 p_3 (((mm_i 3) + ((mm_i 7) * x2)) + (mm_i 6)) v_5 fun h_6 =>
    mm_r203_105 E cl n a0 x1 (x2 + (mm_i 1)) o3 o4 h_6)) := (rfl)
-- Mod.least
noncomputable def mm_r204_0 (E : mm_E) (cl : mm_F) (n : Nat) (a0 : Nat) (h : mm_H) : mm_R := mm_run E cl mm_m204 n 0 [some (.ref a0)] [] h
set_option maxRecDepth 20000 in
set_option maxHeartbeats 4000000 in
theorem mm_e204_0 (E : mm_E) (cl : mm_F) (n : Nat) (a0 : Nat) (h : mm_H) :
  mm_r204_0 E cl (n + 1) a0 h =
  mm_pF h a0 9 0 (.int (mm_i 0)) fun h_1 =>
  mm_cI [] (cl 195 [.ref a0] h_1) fun v_3 h_2 =>
  some (.inl (some (.int v_3)), h_2) := (rfl)
-- Mod.priceWith
noncomputable def mm_r205_0 (E : mm_E) (cl : mm_F) (n : Nat) (a0 : Nat) (x1 : Int32) (x2 : Int32) (x3 : Int32) (h : mm_H) : mm_R := mm_run E cl mm_m205 n 0 [some (.ref a0), some (.int x1), some (.int x2), some (.int x3), none, none, none] [] h
noncomputable def mm_r205_33 (E : mm_E) (cl : mm_F) (n : Nat) (a0 : Nat) (x1 : Int32) (x2 : Int32) (x3 : Int32) (x4 : Int32) (x5 : Int32) (x6 : Int32) (h : mm_H) : mm_R := mm_run E cl mm_m205 n 33 [some (.ref a0), some (.int x1), some (.int x2), some (.int x3), some (.int x4), some (.int x5), some (.int x6)] [] h
set_option maxRecDepth 20000 in
set_option maxHeartbeats 4000000 in
theorem mm_e205_0 (E : mm_E) (cl : mm_F) (n : Nat) (a0 : Nat) (x1 : Int32) (x2 : Int32) (x3 : Int32) (h : mm_H) :
  mm_r205_0 E cl (n + 1) a0 x1 x2 x3 h =
  mm_gR h a0 9 1 fun p_1 =>
  mm_rI E h p_1 (((mm_i 3) + ((mm_i 7) * x1)) + x2) fun v_2 =>
  mm_gR h a0 9 1 fun p_3 =>
  mm_wI h p_3 (((mm_i 3) + ((mm_i 7) * x1)) + x2) x3 fun h_4 =>
  mm_cI [] (cl 195 [.ref a0] h_4) fun v_6 h_5 =>
  mm_r205_33 E cl n a0 x1 x2 x3 (((mm_i 3) + ((mm_i 7) * x1)) + x2) v_2 v_6 h_5 := (rfl)
set_option maxRecDepth 20000 in
set_option maxHeartbeats 4000000 in
theorem mm_e205_33 (E : mm_E) (cl : mm_F) (n : Nat) (a0 : Nat) (x1 : Int32) (x2 : Int32) (x3 : Int32) (x4 : Int32) (x5 : Int32) (x6 : Int32) (h : mm_H) :
  mm_r205_33 E cl (n + 1) a0 x1 x2 x3 x4 x5 x6 h =
  mm_gR h a0 9 1 fun p_1 =>
  mm_wI h p_1 x4 x5 fun h_2 =>
  some (.inl (some (.int x6)), h_2) := (rfl)
-- Mod.lessThan
noncomputable def mm_r206_0 (E : mm_E) (cl : mm_F) (n : Nat) (a0 : Nat) (x1 : Int32) (x2 : Int32) (h : mm_H) : mm_R := mm_run E cl mm_m206 n 0 [some (.ref a0), some (.int x1), some (.int x2)] [] h
set_option maxRecDepth 20000 in
set_option maxHeartbeats 4000000 in
theorem mm_e206_0 (E : mm_E) (cl : mm_F) (n : Nat) (a0 : Nat) (x1 : Int32) (x2 : Int32) (h : mm_H) :
  mm_r206_0 E cl (n + 1) a0 x1 x2 h =
  (mm_br (x1 = (mm_i (-1))) (
  some (.inl (some (.int (mm_i (-1000000)))), h)) (
  (mm_br (x2 = (mm_i (-1))) (
    some (.inl (some (.int (mm_i (-1000000)))), h)) (
    some (.inl (some (.int (x1 - x2))), h))))) := (rfl)
-- Mod.worth
noncomputable def mm_r207_0 (E : mm_E) (cl : mm_F) (n : Nat) (a0 : Nat) (x1 : Int32) (x2 : Int32) (h : mm_H) : mm_R := mm_run E cl mm_m207 n 0 [some (.ref a0), some (.int x1), some (.int x2), none, none] [] h
noncomputable def mm_r207_47 (E : mm_E) (cl : mm_F) (n : Nat) (a0 : Nat) (x1 : Int32) (x2 : Int32) (o3 : Option Value) (o4 : Option Value) (s0 : Int32) (h : mm_H) : mm_R := mm_run E cl mm_m207 n 47 [some (.ref a0), some (.int x1), some (.int x2), o3, o4] [.int s0] h
noncomputable def mm_r207_76 (E : mm_E) (cl : mm_F) (n : Nat) (a0 : Nat) (x1 : Int32) (x2 : Int32) (x3 : Int32) (x4 : Int32) (h : mm_H) : mm_R := mm_run E cl mm_m207 n 76 [some (.ref a0), some (.int x1), some (.int x2), some (.int x3), some (.int x4)] [] h
set_option maxRecDepth 20000 in
set_option maxHeartbeats 4000000 in
theorem mm_e207_0 (E : mm_E) (cl : mm_F) (n : Nat) (a0 : Nat) (x1 : Int32) (x2 : Int32) (h : mm_H) :
  mm_r207_0 E cl (n + 1) a0 x1 x2 h =
  mm_pF h a0 9 0 (.int (mm_i 0)) fun h_1 =>
  mm_cI [] (cl 151 [.ref a0, .int x1] h_1) fun v_3 h_2 =>
  (mm_br (v_3 = (mm_i 0)) (
  mm_cI [] (cl 146 [.ref a0, .int (mm_i 1)] h_2) fun v_5 h_4 =>
    some (.inl (some (.int v_5)), h_4)) (
  mm_cI [] (cl 147 [.int x2, .int (mm_i 0), .int (mm_i 2)] h_2) fun v_7 h_6 =>
    (mm_br (v_7 = (mm_i 0)) (
    mm_cI [] (cl 146 [.ref a0, .int (mm_i 1)] h_6) fun v_9 h_8 =>
      some (.inl (some (.int v_9)), h_8)) (
    (mm_br (x2 = (mm_i 0)) (
      mm_r207_47 E cl n a0 x1 x2 none none (mm_i 0) h_6) (
      (mm_br (x2 = (mm_i 1)) (
        mm_r207_47 E cl n a0 x1 x2 none none (mm_i 5) h_6) (
        mm_r207_47 E cl n a0 x1 x2 none none (mm_i 6) h_6)))))))) := (rfl)
set_option maxRecDepth 20000 in
set_option maxHeartbeats 4000000 in
theorem mm_e207_47 (E : mm_E) (cl : mm_F) (n : Nat) (a0 : Nat) (x1 : Int32) (x2 : Int32) (o3 : Option Value) (o4 : Option Value) (s0 : Int32) (h : mm_H) :
  mm_r207_47 E cl (n + 1) a0 x1 x2 o3 o4 s0 h =
  mm_cI [] (cl 152 [.ref a0, .int x1, .int s0] h) fun v_2 h_1 =>
  (mm_br (x2 = (mm_i 0)) (
  (mm_br (v_2 = (mm_i 0)) (
    some (.inl (some (.int (mm_i 0))), h_1)) (
    mm_r207_76 E cl n a0 x1 x2 s0 v_2 h_1))) (
  (mm_br (v_2 = (mm_i (-1))) (
    some (.inl (some (.int (mm_i 0))), h_1)) (
    mm_r207_76 E cl n a0 x1 x2 s0 v_2 h_1)))) := (rfl)
set_option maxRecDepth 20000 in
set_option maxHeartbeats 4000000 in
theorem mm_e207_76 (E : mm_E) (cl : mm_F) (n : Nat) (a0 : Nat) (x1 : Int32) (x2 : Int32) (x3 : Int32) (x4 : Int32) (h : mm_H) :
  mm_r207_76 E cl (n + 1) a0 x1 x2 x3 x4 h =
  mm_cI [] (cl 195 [.ref a0] h) fun v_2 h_1 =>
  (mm_br (x2 = (mm_i 0)) (
  mm_cI [] (cl 205 [.ref a0, .int x1, .int x3, .int (x4 - (mm_i 1))] h_1) fun v_12 h_11 =>
    mm_cI [] (cl 206 [.ref a0, .int v_2, .int v_12] h_11) fun v_14 h_13 =>
    some (.inl (some (.int v_14)), h_13)) (
  (mm_br (x2 = (mm_i 1)) (
    mm_cI [] (cl 205 [.ref a0, .int x1, .int x3, .int (x4 + (mm_i 1))] h_1) fun v_8 h_7 =>
      mm_cI [] (cl 206 [.ref a0, .int v_2, .int v_8] h_7) fun v_10 h_9 =>
      some (.inl (some (.int v_10)), h_9)) (
    mm_cI [] (cl 205 [.ref a0, .int x1, .int x3, .int (mm_i (-1))] h_1) fun v_4 h_3 =>
      mm_cI [] (cl 206 [.ref a0, .int v_2, .int v_4] h_3) fun v_6 h_5 =>
      some (.inl (some (.int v_6)), h_5))))) := (rfl)
-- Mod.evenPrice
noncomputable def mm_r208_0 (E : mm_E) (cl : mm_F) (n : Nat) (a0 : Nat) (x1 : Int32) (h : mm_H) : mm_R := mm_run E cl mm_m208 n 0 [some (.ref a0), some (.int x1), none, none] [] h
noncomputable def mm_r208_2 (E : mm_E) (cl : mm_F) (n : Nat) (a0 : Nat) (x1 : Int32) (x2 : Int32) (o3 : Option Value) (h : mm_H) : mm_R := mm_run E cl mm_m208 n 2 [some (.ref a0), some (.int x1), some (.int x2), o3] [] h
noncomputable def mm_r208_31 (E : mm_E) (cl : mm_F) (n : Nat) (a0 : Nat) (x1 : Int32) (x2 : Int32) (x3 : Int32) (h : mm_H) : mm_R := mm_run E cl mm_m208 n 31 [some (.ref a0), some (.int x1), some (.int x2), some (.int x3)] [] h
noncomputable def mm_r208_63 (E : mm_E) (cl : mm_F) (n : Nat) (a0 : Nat) (x1 : Int32) (x2 : Int32) (x3 : Int32) (h : mm_H) : mm_R := mm_run E cl mm_m208 n 63 [some (.ref a0), some (.int x1), some (.int x2), some (.int x3)] [] h
set_option maxRecDepth 20000 in
set_option maxHeartbeats 4000000 in
theorem mm_e208_0 (E : mm_E) (cl : mm_F) (n : Nat) (a0 : Nat) (x1 : Int32) (h : mm_H) :
  mm_r208_0 E cl (n + 1) a0 x1 h =
  mm_r208_2 E cl n a0 x1 (mm_i 0) none h := (rfl)
set_option maxRecDepth 20000 in
set_option maxHeartbeats 4000000 in
theorem mm_e208_2 (E : mm_E) (cl : mm_F) (n : Nat) (a0 : Nat) (x1 : Int32) (x2 : Int32) (o3 : Option Value) (h : mm_H) :
  mm_r208_2 E cl (n + 1) a0 x1 x2 o3 h =
  mm_cI [] (cl 150 [.ref a0] h) fun v_2 h_1 =>
  (mm_br (v_2 ≤ x2) (
  mm_cI [] (cl 195 [.ref a0] h_1) fun v_4 h_3 =>
    mm_r208_63 E cl n a0 x1 v_4 (mm_i 0) h_3) (
  mm_gR h_1 a0 9 17 fun p_5 =>
    mm_gR h_1 a0 9 1 fun p_6 =>
    mm_rI E h_1 p_6 (((mm_i 3) + ((mm_i 7) * x2)) + (mm_i 5)) fun v_7 =>
    mm_wI h_1 p_5 x2 v_7 fun h_8 =>
    mm_r208_31 E cl n a0 x1 x2 (((mm_i 3) + ((mm_i 7) * x2)) + (mm_i 5)) h_8)) := (rfl)
set_option maxRecDepth 20000 in
set_option maxHeartbeats 4000000 in
theorem mm_e208_31 (E : mm_E) (cl : mm_F) (n : Nat) (a0 : Nat) (x1 : Int32) (x2 : Int32) (x3 : Int32) (h : mm_H) :
  mm_r208_31 E cl (n + 1) a0 x1 x2 x3 h =
  mm_gR h a0 9 1 fun p_1 =>
  mm_cI [] (cl 158 [.ref a0, .int x2] h) fun v_3 h_2 =>
  (mm_br (v_3 = (mm_i 0)) (
  mm_wI h_2 p_1 x3 x1 fun h_5 =>
    mm_r208_2 E cl n a0 x1 (x2 + (mm_i 1)) (some (.int x3)) h_5) (
  mm_wI h_2 p_1 x3 (mm_i (-1)) fun h_4 =>
    mm_r208_2 E cl n a0 x1 (x2 + (mm_i 1)) (some (.int x3)) h_4)) := (rfl)
set_option maxRecDepth 20000 in
set_option maxHeartbeats 4000000 in
theorem mm_e208_63 (E : mm_E) (cl : mm_F) (n : Nat) (a0 : Nat) (x1 : Int32) (x2 : Int32) (x3 : Int32) (h : mm_H) :
  mm_r208_63 E cl (n + 1) a0 x1 x2 x3 h =
  mm_cI [] (cl 150 [.ref a0] h) fun v_2 h_1 =>
  (mm_br (v_2 ≤ x3) (
  some (.inl (some (.int x2)), h_1)) (
  mm_gR h_1 a0 9 1 fun p_3 =>
    mm_gR h_1 a0 9 17 fun p_4 =>
    mm_rI E h_1 p_4 x3 fun v_5 =>
    mm_wI h_1 p_3 (((mm_i 3) + ((mm_i 7) * x3)) + (mm_i 5)) v_5 fun h_6 =>
    mm_r208_63 E cl n a0 x1 x2 (x3 + (mm_i 1)) h_6)) := (rfl)
-- Mod.even
noncomputable def mm_r209_0 (E : mm_E) (cl : mm_F) (n : Nat) (a0 : Nat) (x1 : Int32) (h : mm_H) : mm_R := mm_run E cl mm_m209 n 0 [some (.ref a0), some (.int x1)] [] h
set_option maxRecDepth 20000 in
set_option maxHeartbeats 4000000 in
theorem mm_e209_0 (E : mm_E) (cl : mm_F) (n : Nat) (a0 : Nat) (x1 : Int32) (h : mm_H) :
  mm_r209_0 E cl (n + 1) a0 x1 h =
  mm_pF h a0 9 0 (.int (mm_i 0)) fun h_1 =>
  mm_cI [] (cl 147 [.int x1, .int (mm_i 0), .int (mm_i 20)] h_1) fun v_3 h_2 =>
  (mm_br (v_3 = (mm_i 0)) (
  mm_cI [] (cl 146 [.ref a0, .int (mm_i 1)] h_2) fun v_5 h_4 =>
    some (.inl (some (.int v_5)), h_4)) (
  mm_cI [] (cl 208 [.ref a0, .int x1] h_2) fun v_7 h_6 =>
    some (.inl (some (.int v_7)), h_6))) := (rfl)
-- Mod.budget
noncomputable def mm_r210_0 (E : mm_E) (cl : mm_F) (n : Nat) (a0 : Nat) (x1 : Int32) (h : mm_H) : mm_R := mm_run E cl mm_m210 n 0 [some (.ref a0), some (.int x1), none, none] [] h
noncomputable def mm_r210_7 (E : mm_E) (cl : mm_F) (n : Nat) (a0 : Nat) (x1 : Int32) (x2 : Int32) (o3 : Option Value) (h : mm_H) : mm_R := mm_run E cl mm_m210 n 7 [some (.ref a0), some (.int x1), some (.int x2), o3] [] h
set_option maxRecDepth 20000 in
set_option maxHeartbeats 4000000 in
theorem mm_e210_0 (E : mm_E) (cl : mm_F) (n : Nat) (a0 : Nat) (x1 : Int32) (h : mm_H) :
  mm_r210_0 E cl (n + 1) a0 x1 h =
  mm_pF h a0 9 0 (.int (mm_i 0)) fun h_1 =>
  mm_r210_7 E cl n a0 x1 (mm_i 0) none h_1 := (rfl)
set_option maxRecDepth 20000 in
set_option maxHeartbeats 4000000 in
theorem mm_e210_7 (E : mm_E) (cl : mm_F) (n : Nat) (a0 : Nat) (x1 : Int32) (x2 : Int32) (o3 : Option Value) (h : mm_H) :
  mm_r210_7 E cl (n + 1) a0 x1 x2 o3 h =
  (mm_br ((mm_i 20) < x2) (
  some (.inl (some (.int (mm_i (-1)))), h)) (
  mm_cI [] (cl 208 [.ref a0, .int x2] h) fun v_2 h_1 =>
    (mm_br (v_2 = (mm_i (-1))) (
    mm_r210_7 E cl n a0 x1 (x2 + (mm_i 1)) (some (.int v_2)) h_1) (
    (mm_br (x1 < v_2) (
      mm_r210_7 E cl n a0 x1 (x2 + (mm_i 1)) (some (.int v_2)) h_1) (
      some (.inl (some (.int x2)), h_1))))))) := (rfl)
-- Mod.pinned
noncomputable def mm_r211_0 (E : mm_E) (cl : mm_F) (n : Nat) (a0 : Nat) (x1 : Int32) (x2 : Int32) (h : mm_H) : mm_R := mm_run E cl mm_m211 n 0 [some (.ref a0), some (.int x1), some (.int x2)] [] h
set_option maxRecDepth 20000 in
set_option maxHeartbeats 4000000 in
theorem mm_e211_0 (E : mm_E) (cl : mm_F) (n : Nat) (a0 : Nat) (x1 : Int32) (x2 : Int32) (h : mm_H) :
  mm_r211_0 E cl (n + 1) a0 x1 x2 h =
  mm_cI [] (cl 151 [.ref a0, .int x1] h) fun v_2 h_1 =>
  (mm_br (v_2 = (mm_i 0)) (
  mm_pF h_1 a0 9 0 (.int (mm_i 1)) fun h_13 =>
    mm_gI h_13 a0 9 0 fun v_14 =>
    (mm_br (v_14 ≤ (mm_i 0)) (
    mm_cI [] (cl 205 [.ref a0, .int x1, .int (mm_i 6), .int x2] h_13) fun v_16 h_15 =>
      some (.inl (some (.int v_16)), h_15)) (
    some (.inl (some (.int (mm_i 0))), h_13)))) (
  mm_cI [] (cl 147 [.int x2, .int (mm_i 0), .int (mm_i 119)] h_1) fun v_4 h_3 =>
    (mm_br (v_4 = (mm_i 0)) (
    mm_pF h_3 a0 9 0 (.int (mm_i 2)) fun h_9 =>
      mm_gI h_9 a0 9 0 fun v_10 =>
      (mm_br (v_10 ≤ (mm_i 0)) (
      mm_cI [] (cl 205 [.ref a0, .int x1, .int (mm_i 6), .int x2] h_9) fun v_12 h_11 =>
        some (.inl (some (.int v_12)), h_11)) (
      some (.inl (some (.int (mm_i 0))), h_9)))) (
    mm_pF h_3 a0 9 0 (.int (mm_i 0)) fun h_5 =>
      mm_gI h_5 a0 9 0 fun v_6 =>
      (mm_br (v_6 ≤ (mm_i 0)) (
      mm_cI [] (cl 205 [.ref a0, .int x1, .int (mm_i 6), .int x2] h_5) fun v_8 h_7 =>
        some (.inl (some (.int v_8)), h_7)) (
      some (.inl (some (.int (mm_i 0))), h_5))))))) := (rfl)
-- Mod.frontierAt
noncomputable def mm_r212_0 (E : mm_E) (cl : mm_F) (n : Nat) (a0 : Nat) (x1 : Int32) (h : mm_H) : mm_R := mm_run E cl mm_m212 n 0 [some (.ref a0), some (.int x1), none, none, none, none] [] h
noncomputable def mm_r212_8 (E : mm_E) (cl : mm_F) (n : Nat) (a0 : Nat) (x1 : Int32) (x2 : Int32) (x3 : Int32) (x4 : Int32) (o5 : Option Value) (h : mm_H) : mm_R := mm_run E cl mm_m212 n 8 [some (.ref a0), some (.int x1), some (.int x2), some (.int x3), some (.int x4), o5] [] h
set_option maxRecDepth 20000 in
set_option maxHeartbeats 4000000 in
theorem mm_e212_0 (E : mm_E) (cl : mm_F) (n : Nat) (a0 : Nat) (x1 : Int32) (h : mm_H) :
  mm_r212_0 E cl (n + 1) a0 x1 h =
  mm_r212_8 E cl n a0 x1 (mm_i 0) (mm_i 1000000000) (mm_i 0) none h := (rfl)
set_option maxRecDepth 20000 in
set_option maxHeartbeats 4000000 in
theorem mm_e212_8 (E : mm_E) (cl : mm_F) (n : Nat) (a0 : Nat) (x1 : Int32) (x2 : Int32) (x3 : Int32) (x4 : Int32) (o5 : Option Value) (h : mm_H) :
  mm_r212_8 E cl (n + 1) a0 x1 x2 x3 x4 o5 h =
  (mm_br ((mm_i 20) < x4) (
  (mm_br (x1 = (mm_i (-1))) (
    some (.inl (some (.int x2)), h)) (
    some (.inl (some (.int (mm_i (-2)))), h)))) (
  mm_cI [] (cl 208 [.ref a0, .int x4] h) fun v_2 h_1 =>
    (mm_br (v_2 = (mm_i (-1))) (
    mm_r212_8 E cl n a0 x1 x2 x3 (x4 + (mm_i 1)) (some (.int v_2)) h_1) (
    (mm_br (v_2 < x3) (
      (mm_br (x2 = x1) (
        some (.inl (some (.int x4)), h_1)) (
        mm_r212_8 E cl n a0 x1 (x2 + (mm_i 1)) v_2 (x4 + (mm_i 1)) (some (.int v_2)) h_1))) (
      mm_r212_8 E cl n a0 x1 x2 x3 (x4 + (mm_i 1)) (some (.int v_2)) h_1)))))) := (rfl)
-- Mod.frontier
noncomputable def mm_r213_0 (E : mm_E) (cl : mm_F) (n : Nat) (a0 : Nat) (x1 : Int32) (h : mm_H) : mm_R := mm_run E cl mm_m213 n 0 [some (.ref a0), some (.int x1), none] [] h
set_option maxRecDepth 20000 in
set_option maxHeartbeats 4000000 in
theorem mm_e213_0 (E : mm_E) (cl : mm_F) (n : Nat) (a0 : Nat) (x1 : Int32) (h : mm_H) :
  mm_r213_0 E cl (n + 1) a0 x1 h =
  mm_pF h a0 9 0 (.int (mm_i 0)) fun h_1 =>
  (mm_br ((mm_i (-1)) ≤ x1) (
  mm_cI [] (cl 212 [.ref a0, .int x1] h_1) fun v_3 h_2 =>
    (mm_br (v_3 = (mm_i (-2))) (
    mm_cI [] (cl 146 [.ref a0, .int (mm_i 1)] h_2) fun v_5 h_4 =>
      some (.inl (some (.int v_5)), h_4)) (
    some (.inl (some (.int v_3)), h_2)))) (
  (mm_br ((mm_i (-2)) = (mm_i (-2))) (
    mm_cI [] (cl 146 [.ref a0, .int (mm_i 1)] h_1) fun v_7 h_6 =>
      some (.inl (some (.int v_7)), h_6)) (
    some (.inl (some (.int (mm_i (-2)))), h_1))))) := (rfl)
-- Mod.demand
noncomputable def mm_r214_0 (E : mm_E) (cl : mm_F) (n : Nat) (a0 : Nat) (x1 : Int32) (x2 : Int32) (x3 : Int32) (h : mm_H) : mm_R := mm_run E cl mm_m214 n 0 [some (.ref a0), some (.int x1), some (.int x2), some (.int x3), none] [] h
noncomputable def mm_r214_39 (E : mm_E) (cl : mm_F) (n : Nat) (a0 : Nat) (x1 : Int32) (x2 : Int32) (x3 : Int32) (o4 : Option Value) (b0 : Nat) (s1 : Int32) (h : mm_H) : mm_R := mm_run E cl mm_m214 n 39 [some (.ref a0), some (.int x1), some (.int x2), some (.int x3), o4] [.int s1, .ref b0] h
noncomputable def mm_r214_64 (E : mm_E) (cl : mm_F) (n : Nat) (a0 : Nat) (x1 : Int32) (x2 : Int32) (x3 : Int32) (x4 : Int32) (h : mm_H) : mm_R := mm_run E cl mm_m214 n 64 [some (.ref a0), some (.int x1), some (.int x2), some (.int x3), some (.int x4)] [] h
set_option maxRecDepth 20000 in
set_option maxHeartbeats 4000000 in
theorem mm_e214_0 (E : mm_E) (cl : mm_F) (n : Nat) (a0 : Nat) (x1 : Int32) (x2 : Int32) (x3 : Int32) (h : mm_H) :
  mm_r214_0 E cl (n + 1) a0 x1 x2 x3 h =
  mm_cI [] (cl 151 [.ref a0, .int x1] h) fun v_2 h_1 =>
  (mm_br (v_2 = (mm_i 0)) (
  mm_r214_39 E cl n a0 x1 x2 x3 none a0 (mm_i 1) h_1) (
  mm_cI [] (cl 147 [.int x2, .int (mm_i 0), .int (mm_i 39)] h_1) fun v_4 h_3 =>
    (mm_br (v_4 = (mm_i 0)) (
    mm_r214_39 E cl n a0 x1 x2 x3 none a0 (mm_i 1) h_3) (
    mm_cI [] (cl 147 [.int x3, .int (mm_i 0), .int (mm_i 999)] h_3) fun v_6 h_5 =>
      (mm_br (v_6 = (mm_i 0)) (
      mm_r214_39 E cl n a0 x1 x2 x3 none a0 (mm_i 2) h_5) (
      mm_r214_39 E cl n a0 x1 x2 x3 none a0 (mm_i 0) h_5)))))) := (rfl)
set_option maxRecDepth 20000 in
set_option maxHeartbeats 4000000 in
theorem mm_e214_39 (E : mm_E) (cl : mm_F) (n : Nat) (a0 : Nat) (x1 : Int32) (x2 : Int32) (x3 : Int32) (o4 : Option Value) (b0 : Nat) (s1 : Int32) (h : mm_H) :
  mm_r214_39 E cl (n + 1) a0 x1 x2 x3 o4 b0 s1 h =
  mm_pF h b0 9 0 (.int s1) fun h_1 =>
  mm_gI h_1 a0 9 0 fun v_2 =>
  (mm_br (v_2 ≤ (mm_i 0)) (
  mm_gR h_1 a0 9 6 fun p_3 =>
    mm_rI E h_1 p_3 (((mm_i 40) * x1) + x2) fun v_4 =>
    mm_r214_64 E cl n a0 x1 x2 x3 v_4 h_1) (
  some (.inl (some (.int (mm_i 0))), h_1))) := (rfl)
set_option maxRecDepth 20000 in
set_option maxHeartbeats 4000000 in
theorem mm_e214_64 (E : mm_E) (cl : mm_F) (n : Nat) (a0 : Nat) (x1 : Int32) (x2 : Int32) (x3 : Int32) (x4 : Int32) (h : mm_H) :
  mm_r214_64 E cl (n + 1) a0 x1 x2 x3 x4 h =
  mm_gR h a0 9 6 fun p_1 =>
  mm_wI h p_1 (((mm_i 40) * x1) + x2) x3 fun h_2 =>
  some (.inl (some (.int x4)), h_2) := (rfl)
-- Mod.draw
noncomputable def mm_r215_0 (E : mm_E) (cl : mm_F) (n : Nat) (a0 : Nat) (x1 : Int32) (h : mm_H) : mm_R := mm_run E cl mm_m215 n 0 [some (.ref a0), some (.int x1)] [] h
set_option maxRecDepth 20000 in
set_option maxHeartbeats 4000000 in
theorem mm_e215_0 (E : mm_E) (cl : mm_F) (n : Nat) (a0 : Nat) (x1 : Int32) (h : mm_H) :
  mm_r215_0 E cl (n + 1) a0 x1 h =
  mm_gI h a0 9 18 fun v_1 =>
  mm_pF h a0 9 18 (.int ((v_1 * (mm_i 1103515245)) + (mm_i 12345))) fun h_2 =>
  mm_gI h_2 a0 9 18 fun v_3 =>
  (mm_nz x1 (
  some (.inl (some (.int (((v_3 >>> ((mm_i 16) &&& 31)) &&& (mm_i 32767)) - ((v_3 >>> ((mm_i 16) &&& 31)) &&& (mm_i 32767)) / x1 * x1))), h_2))) := (rfl)
-- Mod.drawn
noncomputable def mm_r216_0 (E : mm_E) (cl : mm_F) (n : Nat) (a0 : Nat) (x1 : Int32) (x2 : Int32) (h : mm_H) : mm_R := mm_run E cl mm_m216 n 0 [some (.ref a0), some (.int x1), some (.int x2), none, none, none] [] h
noncomputable def mm_r216_29 (E : mm_E) (cl : mm_F) (n : Nat) (a0 : Nat) (x1 : Int32) (x2 : Int32) (x3 : Int32) (x4 : Int32) (o5 : Option Value) (h : mm_H) : mm_R := mm_run E cl mm_m216 n 29 [some (.ref a0), some (.int x1), some (.int x2), some (.int x3), some (.int x4), o5] [] h
noncomputable def mm_r216_52 (E : mm_E) (cl : mm_F) (n : Nat) (a0 : Nat) (x1 : Int32) (x2 : Int32) (x3 : Int32) (x4 : Int32) (x5 : Int32) (h : mm_H) : mm_R := mm_run E cl mm_m216 n 52 [some (.ref a0), some (.int x1), some (.int x2), some (.int x3), some (.int x4), some (.int x5)] [] h
set_option maxRecDepth 20000 in
set_option maxHeartbeats 4000000 in
theorem mm_e216_0 (E : mm_E) (cl : mm_F) (n : Nat) (a0 : Nat) (x1 : Int32) (x2 : Int32) (h : mm_H) :
  mm_r216_0 E cl (n + 1) a0 x1 x2 h =
  mm_pF h a0 9 0 (.int (mm_i 0)) fun h_1 =>
  mm_cI [] (cl 151 [.ref a0, .int x1] h_1) fun v_3 h_2 =>
  (mm_br (v_3 = (mm_i 0)) (
  mm_cI [] (cl 146 [.ref a0, .int (mm_i 1)] h_2) fun v_6 h_5 =>
    some (.inl (some (.int v_6)), h_5)) (
  mm_pF h_2 a0 9 18 (.int x2) fun h_4 =>
    mm_r216_29 E cl n a0 x1 x2 (mm_i 0) (mm_i 0) none h_4)) := (rfl)
set_option maxRecDepth 20000 in
set_option maxHeartbeats 4000000 in
theorem mm_e216_29 (E : mm_E) (cl : mm_F) (n : Nat) (a0 : Nat) (x1 : Int32) (x2 : Int32) (x3 : Int32) (x4 : Int32) (o5 : Option Value) (h : mm_H) :
  mm_r216_29 E cl (n + 1) a0 x1 x2 x3 x4 o5 h =
  (mm_br ((mm_i 40) ≤ x4) (
  some (.inl (some (.int x3)), h)) (
  mm_cI [] (cl 152 [.ref a0, .int x1, .int (mm_i 3)] h) fun v_2 h_1 =>
    mm_cI [] (cl 215 [.ref a0, .int (((mm_i 2) * v_2) + (mm_i 1))] h_1) fun v_4 h_3 =>
    mm_r216_52 E cl n a0 x1 x2 x3 x4 v_4 h_3)) := (rfl)
set_option maxRecDepth 20000 in
set_option maxHeartbeats 4000000 in
theorem mm_e216_52 (E : mm_E) (cl : mm_F) (n : Nat) (a0 : Nat) (x1 : Int32) (x2 : Int32) (x3 : Int32) (x4 : Int32) (x5 : Int32) (h : mm_H) :
  mm_r216_52 E cl (n + 1) a0 x1 x2 x3 x4 x5 h =
  mm_gR h a0 9 6 fun p_1 =>
  mm_wI h p_1 (((mm_i 40) * x1) + x4) x5 fun h_2 =>
  mm_r216_29 E cl n a0 x1 x2 (x3 + x5) (x4 + (mm_i 1)) (some (.int x5)) h_2 := (rfl)
-- Mod.called
noncomputable def mm_r217_0 (E : mm_E) (cl : mm_F) (n : Nat) (a0 : Nat) (x1 : Int32) (x2 : Int32) (h : mm_H) : mm_R := mm_run E cl mm_m217 n 0 [some (.ref a0), some (.int x1), some (.int x2), none, none] [] h
noncomputable def mm_r217_21 (E : mm_E) (cl : mm_F) (n : Nat) (a0 : Nat) (x1 : Int32) (x2 : Int32) (x3 : Int32) (x4 : Int32) (h : mm_H) : mm_R := mm_run E cl mm_m217 n 21 [some (.ref a0), some (.int x1), some (.int x2), some (.int x3), some (.int x4)] [] h
set_option maxRecDepth 20000 in
set_option maxHeartbeats 4000000 in
theorem mm_e217_0 (E : mm_E) (cl : mm_F) (n : Nat) (a0 : Nat) (x1 : Int32) (x2 : Int32) (h : mm_H) :
  mm_r217_0 E cl (n + 1) a0 x1 x2 h =
  (mm_br ((mm_i 0) ≤ x2) (
  mm_gR h a0 9 6 fun p_1 =>
    mm_rI E h p_1 (((mm_i 40) * x1) + x2) fun v_2 =>
    mm_r217_21 E cl n a0 x1 x2 v_2 (mm_i 0) h) (
  some (.inl (some (.int (mm_i 0))), h))) := (rfl)
set_option maxRecDepth 20000 in
set_option maxHeartbeats 4000000 in
theorem mm_e217_21 (E : mm_E) (cl : mm_F) (n : Nat) (a0 : Nat) (x1 : Int32) (x2 : Int32) (x3 : Int32) (x4 : Int32) (h : mm_H) :
  mm_r217_21 E cl (n + 1) a0 x1 x2 x3 x4 h =
  mm_cI [] (cl 150 [.ref a0] h) fun v_2 h_1 =>
  (mm_br (v_2 ≤ x4) (
  some (.inl (some (.int x3)), h_1)) (
  mm_cI [] (cl 158 [.ref a0, .int x1] h_1) fun v_4 h_3 =>
    mm_cI [] (cl 159 [.int v_4, .int x4] h_3) fun v_6 h_5 =>
    (mm_br (v_6 = (mm_i 0)) (
    mm_r217_21 E cl n a0 x1 x2 x3 (x4 + (mm_i 1)) h_5) (
    mm_cI [] (cl 217 [.ref a0, .int x4, .int x2] h_5) fun v_8 h_7 =>
      mm_r217_21 E cl n a0 x1 x2 (x3 + v_8) (x4 + (mm_i 1)) h_7)))) := (rfl)
-- Mod.layCalls
noncomputable def mm_r218_0 (E : mm_E) (cl : mm_F) (n : Nat) (a0 : Nat) (x1 : Int32) (h : mm_H) : mm_R := mm_run E cl mm_m218 n 0 [some (.ref a0), some (.int x1), none] [] h
noncomputable def mm_r218_2 (E : mm_E) (cl : mm_F) (n : Nat) (a0 : Nat) (x1 : Int32) (x2 : Int32) (h : mm_H) : mm_R := mm_run E cl mm_m218 n 2 [some (.ref a0), some (.int x1), some (.int x2)] [] h
noncomputable def mm_r218_28 (E : mm_E) (cl : mm_F) (n : Nat) (a0 : Nat) (x1 : Int32) (x2 : Int32) (h : mm_H) : mm_R := mm_run E cl mm_m218 n 28 [some (.ref a0), some (.int x1), some (.int x2)] [] h
set_option maxRecDepth 20000 in
set_option maxHeartbeats 4000000 in
theorem mm_e218_0 (E : mm_E) (cl : mm_F) (n : Nat) (a0 : Nat) (x1 : Int32) (h : mm_H) :
  mm_r218_0 E cl (n + 1) a0 x1 h =
  mm_r218_2 E cl n a0 x1 (mm_i 0) h := (rfl)
set_option maxRecDepth 20000 in
set_option maxHeartbeats 4000000 in
theorem mm_e218_2 (E : mm_E) (cl : mm_F) (n : Nat) (a0 : Nat) (x1 : Int32) (x2 : Int32) (h : mm_H) :
  mm_r218_2 E cl (n + 1) a0 x1 x2 h =
  (mm_br ((mm_i 40) ≤ x2) (
  mm_r218_28 E cl n a0 x1 (mm_i 0) h) (
  mm_gR h a0 9 19 fun p_1 =>
    mm_cI [] (cl 217 [.ref a0, .int x1, .int x2] h) fun v_3 h_2 =>
    mm_wI h_2 p_1 x2 v_3 fun h_4 =>
    mm_r218_2 E cl n a0 x1 (x2 + (mm_i 1)) h_4)) := (rfl)
set_option maxRecDepth 20000 in
set_option maxHeartbeats 4000000 in
theorem mm_e218_28 (E : mm_E) (cl : mm_F) (n : Nat) (a0 : Nat) (x1 : Int32) (x2 : Int32) (h : mm_H) :
  mm_r218_28 E cl (n + 1) a0 x1 x2 h =
  (mm_br ((mm_i 40) < x2) (
  some (.inl none, h)) (
  mm_gR h a0 9 20 fun p_1 =>
    mm_cI [] (cl 166 [.ref a0, .int x1, .int x2] h) fun v_3 h_2 =>
    mm_wI h_2 p_1 x2 v_3 fun h_4 =>
    mm_r218_28 E cl n a0 x1 (x2 + (mm_i 1)) h_4)) := (rfl)
-- Mod.onHand
noncomputable def mm_r219_0 (E : mm_E) (cl : mm_F) (n : Nat) (a0 : Nat) (x1 : Int32) (x2 : Int32) (h : mm_H) : mm_R := mm_run E cl mm_m219 n 0 [some (.ref a0), some (.int x1), some (.int x2), none, none, none] [] h
noncomputable def mm_r219_29 (E : mm_E) (cl : mm_F) (n : Nat) (a0 : Nat) (x1 : Int32) (x2 : Int32) (x3 : Int32) (x4 : Int32) (o5 : Option Value) (h : mm_H) : mm_R := mm_run E cl mm_m219 n 29 [some (.ref a0), some (.int x1), some (.int x2), some (.int x3), some (.int x4), o5] [] h
noncomputable def mm_r219_43 (E : mm_E) (cl : mm_F) (n : Nat) (a0 : Nat) (x1 : Int32) (x2 : Int32) (x3 : Int32) (x4 : Int32) (x5 : Int32) (h : mm_H) : mm_R := mm_run E cl mm_m219 n 43 [some (.ref a0), some (.int x1), some (.int x2), some (.int x3), some (.int x4), some (.int x5)] [] h
set_option maxRecDepth 20000 in
set_option maxHeartbeats 4000000 in
theorem mm_e219_0 (E : mm_E) (cl : mm_F) (n : Nat) (a0 : Nat) (x1 : Int32) (x2 : Int32) (h : mm_H) :
  mm_r219_0 E cl (n + 1) a0 x1 x2 h =
  mm_cI [] (cl 180 [.ref a0, .int x1] h) fun v_2 h_1 =>
  (mm_br ((mm_i 0) ≤ v_2) (
  (mm_br (v_2 = (mm_i 0)) (
    mm_r219_29 E cl n a0 x1 x2 v_2 (mm_i 0) none h_1) (
    mm_cI [] (cl 166 [.ref a0, .int x1, .int v_2] h_1) fun v_4 h_3 =>
      mm_r219_29 E cl n a0 x1 x2 v_2 v_4 none h_3))) (
  some (.inl (some (.int (mm_i (-1000000)))), h_1))) := (rfl)
set_option maxRecDepth 20000 in
set_option maxHeartbeats 4000000 in
theorem mm_e219_29 (E : mm_E) (cl : mm_F) (n : Nat) (a0 : Nat) (x1 : Int32) (x2 : Int32) (x3 : Int32) (x4 : Int32) (o5 : Option Value) (h : mm_H) :
  mm_r219_29 E cl (n + 1) a0 x1 x2 x3 x4 o5 h =
  mm_gR h a0 9 5 fun p_1 =>
  mm_rI E h p_1 x1 fun v_2 =>
  mm_r219_43 E cl n a0 x1 x2 x3 x4 (((x2 - v_2) - x3) + (mm_i 1)) h := (rfl)
set_option maxRecDepth 20000 in
set_option maxHeartbeats 4000000 in
theorem mm_e219_43 (E : mm_E) (cl : mm_F) (n : Nat) (a0 : Nat) (x1 : Int32) (x2 : Int32) (x3 : Int32) (x4 : Int32) (x5 : Int32) (h : mm_H) :
  mm_r219_43 E cl (n + 1) a0 x1 x2 x3 x4 x5 h =
  mm_gR h a0 9 5 fun p_1 =>
  mm_rI E h p_1 x1 fun v_2 =>
  (mm_br ((x2 - v_2) < x5) (
  some (.inl (some (.int x4)), h)) (
  (mm_br ((mm_i 0) ≤ x5) (
    mm_gR h a0 9 19 fun p_3 =>
      mm_rI E h p_3 x5 fun v_4 =>
      mm_r219_43 E cl n a0 x1 x2 x3 (x4 - v_4) (x5 + (mm_i 1)) h) (
    mm_r219_43 E cl n a0 x1 x2 x3 (x4 - (mm_i 0)) (x5 + (mm_i 1)) h)))) := (rfl)
-- Mod.breaking
noncomputable def mm_r220_0 (E : mm_E) (cl : mm_F) (n : Nat) (a0 : Nat) (x1 : Int32) (h : mm_H) : mm_R := mm_run E cl mm_m220 n 0 [some (.ref a0), some (.int x1), none, none, none] [] h
noncomputable def mm_r220_7 (E : mm_E) (cl : mm_F) (n : Nat) (a0 : Nat) (x1 : Int32) (x2 : Int32) (x3 : Int32) (x4 : Int32) (h : mm_H) : mm_R := mm_run E cl mm_m220 n 7 [some (.ref a0), some (.int x1), some (.int x2), some (.int x3), some (.int x4)] [] h
noncomputable def mm_r220_29 (E : mm_E) (cl : mm_F) (n : Nat) (a0 : Nat) (x1 : Int32) (x2 : Int32) (x3 : Int32) (x4 : Int32) (h : mm_H) : mm_R := mm_run E cl mm_m220 n 29 [some (.ref a0), some (.int x1), some (.int x2), some (.int x3), some (.int x4)] [] h
set_option maxRecDepth 20000 in
set_option maxHeartbeats 4000000 in
theorem mm_e220_0 (E : mm_E) (cl : mm_F) (n : Nat) (a0 : Nat) (x1 : Int32) (h : mm_H) :
  mm_r220_0 E cl (n + 1) a0 x1 h =
  mm_r220_7 E cl n a0 x1 (mm_i 0) (mm_i 0) (mm_i 1) h := (rfl)
set_option maxRecDepth 20000 in
set_option maxHeartbeats 4000000 in
theorem mm_e220_7 (E : mm_E) (cl : mm_F) (n : Nat) (a0 : Nat) (x1 : Int32) (x2 : Int32) (x3 : Int32) (x4 : Int32) (h : mm_H) :
  mm_r220_7 E cl (n + 1) a0 x1 x2 x3 x4 h =
  (mm_br ((x1 + (mm_i 1)) < x4) (
  some (.inl (some (.int x2)), h)) (
  mm_gR h a0 9 19 fun p_1 =>
    mm_rI E h p_1 ((x1 - x4) + (mm_i 1)) fun v_2 =>
    mm_r220_29 E cl n a0 x1 x2 (x3 + v_2) x4 h)) := (rfl)
set_option maxRecDepth 20000 in
set_option maxHeartbeats 4000000 in
theorem mm_e220_29 (E : mm_E) (cl : mm_F) (n : Nat) (a0 : Nat) (x1 : Int32) (x2 : Int32) (x3 : Int32) (x4 : Int32) (h : mm_H) :
  mm_r220_29 E cl (n + 1) a0 x1 x2 x3 x4 h =
  mm_gR h a0 9 20 fun p_1 =>
  mm_rI E h p_1 x4 fun v_2 =>
  (mm_br (x3 ≤ v_2) (
  mm_r220_7 E cl n a0 x1 x2 x3 (x4 + (mm_i 1)) h) (
  mm_r220_7 E cl n a0 x1 x4 x3 (x4 + (mm_i 1)) h)) := (rfl)
-- Mod.day
noncomputable def mm_r221_0 (E : mm_E) (cl : mm_F) (n : Nat) (a0 : Nat) (x1 : Int32) (x2 : Int32) (x3 : Int32) (h : mm_H) : mm_R := mm_run E cl mm_m221 n 0 [some (.ref a0), some (.int x1), some (.int x2), some (.int x3)] [] h
noncomputable def mm_r221_47 (E : mm_E) (cl : mm_F) (n : Nat) (a0 : Nat) (x1 : Int32) (x2 : Int32) (x3 : Int32) (h : mm_H) : mm_R := mm_run E cl mm_m221 n 47 [some (.ref a0), some (.int x1), some (.int x2), some (.int x3)] [] h
noncomputable def mm_r221_61 (E : mm_E) (cl : mm_F) (n : Nat) (a0 : Nat) (x1 : Int32) (x2 : Int32) (x3 : Int32) (h : mm_H) : mm_R := mm_run E cl mm_m221 n 61 [some (.ref a0), some (.int x1), some (.int x2), some (.int x3)] [] h
set_option maxRecDepth 20000 in
set_option maxHeartbeats 4000000 in
theorem mm_e221_0 (E : mm_E) (cl : mm_F) (n : Nat) (a0 : Nat) (x1 : Int32) (x2 : Int32) (x3 : Int32) (h : mm_H) :
  mm_r221_0 E cl (n + 1) a0 x1 x2 x3 h =
  mm_pF h a0 9 0 (.int (mm_i 0)) fun h_1 =>
  mm_cI [] (cl 151 [.ref a0, .int x1] h_1) fun v_3 h_2 =>
  (mm_br (v_3 = (mm_i 0)) (
  mm_cI [] (cl 146 [.ref a0, .int (mm_i 1)] h_2) fun v_5 h_4 =>
    some (.inl (some (.int v_5)), h_4)) (
  mm_cI [] (cl 147 [.int x2, .int (mm_i 0), .int (mm_i 39)] h_2) fun v_7 h_6 =>
    (mm_br (v_7 = (mm_i 0)) (
    mm_cI [] (cl 146 [.ref a0, .int (mm_i 1)] h_6) fun v_9 h_8 =>
      some (.inl (some (.int v_9)), h_8)) (
    mm_cI [] (cl 147 [.int x3, .int (mm_i 0), .int (mm_i 3)] h_6) fun v_11 h_10 =>
      (mm_br (v_11 = (mm_i 0)) (
      mm_cI [] (cl 146 [.ref a0, .int (mm_i 1)] h_10) fun v_14 h_13 =>
        some (.inl (some (.int v_14)), h_13)) (
      mm_cV [] (cl 218 [.ref a0, .int x1] h_10) fun h_12 =>
        (mm_br (x3 = (mm_i 0)) (
        mm_r221_47 E cl n a0 x1 x2 x3 h_12) (
        mm_r221_61 E cl n a0 x1 x2 x3 h_12)))))))) := (rfl)
set_option maxRecDepth 20000 in
set_option maxHeartbeats 4000000 in
theorem mm_e221_47 (E : mm_E) (cl : mm_F) (n : Nat) (a0 : Nat) (x1 : Int32) (x2 : Int32) (x3 : Int32) (h : mm_H) :
  mm_r221_47 E cl (n + 1) a0 x1 x2 x3 h =
  mm_gR h a0 9 6 fun p_1 =>
  mm_rI E h p_1 (((mm_i 40) * x1) + x2) fun v_2 =>
  some (.inl (some (.int v_2)), h) := (rfl)
set_option maxRecDepth 20000 in
set_option maxHeartbeats 4000000 in
theorem mm_e221_61 (E : mm_E) (cl : mm_F) (n : Nat) (a0 : Nat) (x1 : Int32) (x2 : Int32) (x3 : Int32) (h : mm_H) :
  mm_r221_61 E cl (n + 1) a0 x1 x2 x3 h =
  (mm_br (x3 = (mm_i 1)) (
  mm_gR h a0 9 19 fun p_5 =>
    mm_rI E h p_5 x2 fun v_6 =>
    some (.inl (some (.int v_6)), h)) (
  (mm_br (x3 = (mm_i 2)) (
    mm_cI [] (cl 219 [.ref a0, .int x1, .int x2] h) fun v_4 h_3 =>
      some (.inl (some (.int v_4)), h_3)) (
    mm_cI [] (cl 220 [.ref a0, .int x2] h) fun v_2 h_1 =>
      some (.inl (some (.int v_2)), h_1))))) := (rfl)
-- Mod.days
noncomputable def mm_r222_0 (E : mm_E) (cl : mm_F) (n : Nat) (a0 : Nat) (x1 : Int32) (x2 : Int32) (h : mm_H) : mm_R := mm_run E cl mm_m222 n 0 [some (.ref a0), some (.int x1), some (.int x2), none, none, none, none] [] h
noncomputable def mm_r222_40 (E : mm_E) (cl : mm_F) (n : Nat) (a0 : Nat) (x1 : Int32) (x2 : Int32) (x3 : Int32) (o4 : Option Value) (o5 : Option Value) (o6 : Option Value) (h : mm_H) : mm_R := mm_run E cl mm_m222 n 40 [some (.ref a0), some (.int x1), some (.int x2), some (.int x3), o4, o5, o6] [] h
noncomputable def mm_r222_72 (E : mm_E) (cl : mm_F) (n : Nat) (a0 : Nat) (x1 : Int32) (x2 : Int32) (o3 : Option Value) (o4 : Option Value) (o5 : Option Value) (o6 : Option Value) (h : mm_H) : mm_R := mm_run E cl mm_m222 n 72 [some (.ref a0), some (.int x1), some (.int x2), o3, o4, o5, o6] [] h
noncomputable def mm_r222_83 (E : mm_E) (cl : mm_F) (n : Nat) (a0 : Nat) (x1 : Int32) (x2 : Int32) (o3 : Option Value) (o4 : Option Value) (o5 : Option Value) (o6 : Option Value) (h : mm_H) : mm_R := mm_run E cl mm_m222 n 83 [some (.ref a0), some (.int x1), some (.int x2), o3, o4, o5, o6] [] h
noncomputable def mm_r222_96 (E : mm_E) (cl : mm_F) (n : Nat) (a0 : Nat) (x1 : Int32) (x2 : Int32) (x3 : Int32) (x4 : Int32) (x5 : Int32) (o6 : Option Value) (h : mm_H) : mm_R := mm_run E cl mm_m222 n 96 [some (.ref a0), some (.int x1), some (.int x2), some (.int x3), some (.int x4), some (.int x5), o6] [] h
set_option maxRecDepth 20000 in
set_option maxHeartbeats 4000000 in
theorem mm_e222_0 (E : mm_E) (cl : mm_F) (n : Nat) (a0 : Nat) (x1 : Int32) (x2 : Int32) (h : mm_H) :
  mm_r222_0 E cl (n + 1) a0 x1 x2 h =
  mm_pF h a0 9 0 (.int (mm_i 0)) fun h_1 =>
  mm_cI [] (cl 151 [.ref a0, .int x1] h_1) fun v_3 h_2 =>
  (mm_br (v_3 = (mm_i 0)) (
  mm_cI [] (cl 146 [.ref a0, .int (mm_i 1)] h_2) fun v_5 h_4 =>
    some (.inl (some (.int v_5)), h_4)) (
  mm_cI [] (cl 147 [.int x2, .int (mm_i 0), .int (mm_i 2)] h_2) fun v_7 h_6 =>
    (mm_br (v_7 = (mm_i 0)) (
    mm_cI [] (cl 146 [.ref a0, .int (mm_i 1)] h_6) fun v_12 h_11 =>
      some (.inl (some (.int v_12)), h_11)) (
    mm_cV [] (cl 218 [.ref a0, .int x1] h_6) fun h_8 =>
      (mm_br (x2 = (mm_i 1)) (
      mm_r222_40 E cl n a0 x1 x2 (mm_i 0) none none none h_8) (
      mm_cI [] (cl 180 [.ref a0, .int x1] h_8) fun v_10 h_9 =>
        (mm_br ((mm_i 0) ≤ v_10) (
        mm_r222_83 E cl n a0 x1 x2 none none none none h_9) (
        mm_r222_72 E cl n a0 x1 x2 none none none none h_9)))))))) := (rfl)
set_option maxRecDepth 20000 in
set_option maxHeartbeats 4000000 in
theorem mm_e222_40 (E : mm_E) (cl : mm_F) (n : Nat) (a0 : Nat) (x1 : Int32) (x2 : Int32) (x3 : Int32) (o4 : Option Value) (o5 : Option Value) (o6 : Option Value) (h : mm_H) :
  mm_r222_40 E cl (n + 1) a0 x1 x2 x3 o4 o5 o6 h =
  (mm_br ((mm_i 40) ≤ x3) (
  some (.inl (some (.int (mm_i (-1)))), h)) (
  mm_cI [] (cl 220 [.ref a0, .int x3] h) fun v_2 h_1 =>
    (mm_br (v_2 ≤ (mm_i 0)) (
    mm_r222_40 E cl n a0 x1 x2 (x3 + (mm_i 1)) o4 o5 o6 h_1) (
    some (.inl (some (.int x3)), h_1))))) := (rfl)
set_option maxRecDepth 20000 in
set_option maxHeartbeats 4000000 in
theorem mm_e222_72 (E : mm_E) (cl : mm_F) (n : Nat) (a0 : Nat) (x1 : Int32) (x2 : Int32) (o3 : Option Value) (o4 : Option Value) (o5 : Option Value) (o6 : Option Value) (h : mm_H) :
  mm_r222_72 E cl (n + 1) a0 x1 x2 o3 o4 o5 o6 h =
  (mm_br (x2 = (mm_i 0)) (
  some (.inl (some (.int (mm_i (-1)))), h)) (
  some (.inl (some (.int (mm_i (-1000000)))), h))) := (rfl)
set_option maxRecDepth 20000 in
set_option maxHeartbeats 4000000 in
theorem mm_e222_83 (E : mm_E) (cl : mm_F) (n : Nat) (a0 : Nat) (x1 : Int32) (x2 : Int32) (o3 : Option Value) (o4 : Option Value) (o5 : Option Value) (o6 : Option Value) (h : mm_H) :
  mm_r222_83 E cl (n + 1) a0 x1 x2 o3 o4 o5 o6 h =
  mm_cI [] (cl 219 [.ref a0, .int x1, .int (mm_i 0)] h) fun v_2 h_1 =>
  mm_r222_96 E cl n a0 x1 x2 (mm_i 0) v_2 (mm_i 0) o6 h_1 := (rfl)
set_option maxRecDepth 20000 in
set_option maxHeartbeats 4000000 in
theorem mm_e222_96 (E : mm_E) (cl : mm_F) (n : Nat) (a0 : Nat) (x1 : Int32) (x2 : Int32) (x3 : Int32) (x4 : Int32) (x5 : Int32) (o6 : Option Value) (h : mm_H) :
  mm_r222_96 E cl (n + 1) a0 x1 x2 x3 x4 x5 o6 h =
  (mm_br ((mm_i 40) ≤ x5) (
  (mm_br (x2 = (mm_i 0)) (
    some (.inl (some (.int x3)), h)) (
    some (.inl (some (.int x4)), h)))) (
  mm_cI [] (cl 219 [.ref a0, .int x1, .int x5] h) fun v_2 h_1 =>
    (mm_br ((mm_i 0) ≤ v_2) (
    mm_r222_96 E cl n a0 x1 x2 (x3 + (mm_i 0)) (mm_mn x4 v_2) (x5 + (mm_i 1)) (some (.int v_2)) h_1) (
    mm_r222_96 E cl n a0 x1 x2 (x3 + (mm_i 1)) (mm_mn x4 v_2) (x5 + (mm_i 1)) (some (.int v_2)) h_1)))) := (rfl)
-- Mod.aheadOf
noncomputable def mm_r223_0 (E : mm_E) (cl : mm_F) (n : Nat) (a0 : Nat) (x1 : Int32) (h : mm_H) : mm_R := mm_run E cl mm_m223 n 0 [some (.ref a0), some (.int x1), none, none] [] h
noncomputable def mm_r223_4 (E : mm_E) (cl : mm_F) (n : Nat) (a0 : Nat) (x1 : Int32) (x2 : Int32) (x3 : Int32) (h : mm_H) : mm_R := mm_run E cl mm_m223 n 4 [some (.ref a0), some (.int x1), some (.int x2), some (.int x3)] [] h
noncomputable def mm_r223_29 (E : mm_E) (cl : mm_F) (n : Nat) (a0 : Nat) (x1 : Int32) (x2 : Int32) (x3 : Int32) (h : mm_H) : mm_R := mm_run E cl mm_m223 n 29 [some (.ref a0), some (.int x1), some (.int x2), some (.int x3)] [] h
set_option maxRecDepth 20000 in
set_option maxHeartbeats 4000000 in
theorem mm_e223_0 (E : mm_E) (cl : mm_F) (n : Nat) (a0 : Nat) (x1 : Int32) (h : mm_H) :
  mm_r223_0 E cl (n + 1) a0 x1 h =
  mm_r223_4 E cl n a0 x1 (mm_i (-1)) (mm_i 0) h := (rfl)
set_option maxRecDepth 20000 in
set_option maxHeartbeats 4000000 in
theorem mm_e223_4 (E : mm_E) (cl : mm_F) (n : Nat) (a0 : Nat) (x1 : Int32) (x2 : Int32) (x3 : Int32) (h : mm_H) :
  mm_r223_4 E cl (n + 1) a0 x1 x2 x3 h =
  mm_cI [] (cl 150 [.ref a0] h) fun v_2 h_1 =>
  (mm_br (v_2 ≤ x3) (
  (mm_br (x2 = (mm_i (-1))) (
    some (.inl (some (.int (mm_i (-1)))), h_1)) (
    mm_cI [] (cl 163 [.ref a0, .int x2] h_1) fun v_4 h_3 =>
      mm_cI [] (cl 152 [.ref a0, .int x1, .int (mm_i 0)] h_3) fun v_6 h_5 =>
      mm_cI [] (cl 163 [.ref a0, .int x1] h_5) fun v_8 h_7 =>
      (mm_br ((v_4 + v_6) = v_8) (
      some (.inl (some (.int x2)), h_7)) (
      some (.inl (some (.int (mm_i (-1)))), h_7)))))) (
  mm_cI [] (cl 157 [.ref a0, .int x1] h_1) fun v_10 h_9 =>
    mm_cI [] (cl 159 [.int v_10, .int x3] h_9) fun v_12 h_11 =>
    (mm_br (v_12 = (mm_i 0)) (
    mm_r223_4 E cl n a0 x1 x2 (x3 + (mm_i 1)) h_11) (
    (mm_br (x2 = (mm_i (-1))) (
      mm_r223_4 E cl n a0 x1 x3 (x3 + (mm_i 1)) h_11) (
      mm_r223_29 E cl n a0 x1 x2 x3 h_11)))))) := (rfl)
set_option maxRecDepth 20000 in
set_option maxHeartbeats 4000000 in
theorem mm_e223_29 (E : mm_E) (cl : mm_F) (n : Nat) (a0 : Nat) (x1 : Int32) (x2 : Int32) (x3 : Int32) (h : mm_H) :
  mm_r223_29 E cl (n + 1) a0 x1 x2 x3 h =
  mm_cI [] (cl 163 [.ref a0, .int x3] h) fun v_2 h_1 =>
  mm_cI [] (cl 163 [.ref a0, .int x2] h_1) fun v_4 h_3 =>
  (mm_br (v_2 ≤ v_4) (
  mm_r223_4 E cl n a0 x1 x2 (x3 + (mm_i 1)) h_3) (
  mm_r223_4 E cl n a0 x1 x3 (x3 + (mm_i 1)) h_3)) := (rfl)
-- Mod.chain
noncomputable def mm_r224_0 (E : mm_E) (cl : mm_F) (n : Nat) (a0 : Nat) (x1 : Int32) (x2 : Int32) (h : mm_H) : mm_R := mm_run E cl mm_m224 n 0 [some (.ref a0), some (.int x1), some (.int x2), none, none] [] h
noncomputable def mm_r224_29 (E : mm_E) (cl : mm_F) (n : Nat) (a0 : Nat) (x1 : Int32) (x2 : Int32) (x3 : Int32) (x4 : Int32) (h : mm_H) : mm_R := mm_run E cl mm_m224 n 29 [some (.ref a0), some (.int x1), some (.int x2), some (.int x3), some (.int x4)] [] h
set_option maxRecDepth 20000 in
set_option maxHeartbeats 4000000 in
theorem mm_e224_0 (E : mm_E) (cl : mm_F) (n : Nat) (a0 : Nat) (x1 : Int32) (x2 : Int32) (h : mm_H) :
  mm_r224_0 E cl (n + 1) a0 x1 x2 h =
  mm_pF h a0 9 0 (.int (mm_i 0)) fun h_1 =>
  mm_cI [] (cl 151 [.ref a0, .int x1] h_1) fun v_3 h_2 =>
  (mm_br (v_3 = (mm_i 0)) (
  mm_cI [] (cl 146 [.ref a0, .int (mm_i 1)] h_2) fun v_5 h_4 =>
    some (.inl (some (.int v_5)), h_4)) (
  (mm_br ((mm_i (-1)) ≤ x2) (
    mm_r224_29 E cl n a0 x1 x2 (mm_i 0) x1 h_2) (
    mm_cI [] (cl 146 [.ref a0, .int (mm_i 1)] h_2) fun v_7 h_6 =>
      some (.inl (some (.int v_7)), h_6))))) := (rfl)
set_option maxRecDepth 20000 in
set_option maxHeartbeats 4000000 in
theorem mm_e224_29 (E : mm_E) (cl : mm_F) (n : Nat) (a0 : Nat) (x1 : Int32) (x2 : Int32) (x3 : Int32) (x4 : Int32) (h : mm_H) :
  mm_r224_29 E cl (n + 1) a0 x1 x2 x3 x4 h =
  (mm_br (x4 = (mm_i (-1))) (
  (mm_br (x2 = (mm_i (-1))) (
    some (.inl (some (.int x3)), h)) (
    mm_cI [] (cl 146 [.ref a0, .int (mm_i 1)] h) fun v_2 h_1 =>
      some (.inl (some (.int v_2)), h_1)))) (
  (mm_br (x3 = x2) (
    some (.inl (some (.int x4)), h)) (
    mm_cI [] (cl 223 [.ref a0, .int x4] h) fun v_4 h_3 =>
      mm_r224_29 E cl n a0 x1 x2 (x3 + (mm_i 1)) v_4 h_3)))) := (rfl)
-- Mod.copy
noncomputable def mm_r225_0 (E : mm_E) (cl : mm_F) (n : Nat) (a0 : Nat) (a1 : Nat) (h : mm_H) : mm_R := mm_run E cl mm_m225 n 0 [some (.ref a0), some (.ref a1), none] [] h
noncomputable def mm_r225_2 (E : mm_E) (cl : mm_F) (n : Nat) (a0 : Nat) (a1 : Nat) (x2 : Int32) (h : mm_H) : mm_R := mm_run E cl mm_m225 n 2 [some (.ref a0), some (.ref a1), some (.int x2)] [] h
set_option maxRecDepth 20000 in
set_option maxHeartbeats 4000000 in
theorem mm_e225_0 (E : mm_E) (cl : mm_F) (n : Nat) (a0 : Nat) (a1 : Nat) (h : mm_H) :
  mm_r225_0 E cl (n + 1) a0 a1 h =
  mm_r225_2 E cl n a0 a1 (mm_i 0) h := (rfl)
set_option maxRecDepth 20000 in
set_option maxHeartbeats 4000000 in
theorem mm_e225_2 (E : mm_E) (cl : mm_F) (n : Nat) (a0 : Nat) (a1 : Nat) (x2 : Int32) (h : mm_H) :
  mm_r225_2 E cl (n + 1) a0 a1 x2 h =
  mm_ln E h a0 fun v_1 =>
  (mm_br (v_1 ≤ x2) (
  some (.inl none, h)) (
  mm_rI E h a1 x2 fun v_2 =>
    mm_wI h a0 x2 v_2 fun h_3 =>
    mm_r225_2 E cl n a0 a1 (x2 + (mm_i 1)) h_3)) := (rfl)
-- Mod.image
noncomputable def mm_r226_0 (E : mm_E) (cl : mm_F) (n : Nat) (a0 : Nat) (h : mm_H) : mm_R := mm_run E cl mm_m226 n 0 [some (.ref a0)] [] h
set_option maxRecDepth 20000 in
set_option maxHeartbeats 4000000 in
theorem mm_e226_0 (E : mm_E) (cl : mm_F) (n : Nat) (a0 : Nat) (h : mm_H) :
  mm_r226_0 E cl (n + 1) a0 h =
  mm_pF h a0 9 0 (.int (mm_i 0)) fun h_1 =>
  (mm_bz (mm_i 1) (
  mm_pF h_1 a0 9 24 (.int (mm_i 1)) fun h_2 =>
  mm_gR h_2 a0 9 21 fun p_3 =>
  mm_gR h_2 a0 9 1 fun p_4 =>
  mm_cV [] (cl 225 [.ref p_3, .ref p_4] h_2) fun h_5 =>
  mm_gR h_5 a0 9 22 fun p_6 =>
  mm_gR h_5 a0 9 5 fun p_7 =>
  mm_cV [] (cl 225 [.ref p_6, .ref p_7] h_5) fun h_8 =>
  mm_gR h_8 a0 9 23 fun p_9 =>
  mm_gR h_8 a0 9 6 fun p_10 =>
  mm_cV [] (cl 225 [.ref p_9, .ref p_10] h_8) fun h_11 =>
  some (.inl none, h_11))) := (rfl)
-- Mod.back
noncomputable def mm_r227_0 (E : mm_E) (cl : mm_F) (n : Nat) (a0 : Nat) (h : mm_H) : mm_R := mm_run E cl mm_m227 n 0 [some (.ref a0)] [] h
noncomputable def mm_r227_47 (E : mm_E) (cl : mm_F) (n : Nat) (a0 : Nat) (h : mm_H) : mm_R := mm_run E cl mm_m227 n 47 [some (.ref a0)] [] h
set_option maxRecDepth 20000 in
set_option maxHeartbeats 4000000 in
theorem mm_e227_0 (E : mm_E) (cl : mm_F) (n : Nat) (a0 : Nat) (h : mm_H) :
  mm_r227_0 E cl (n + 1) a0 h =
  mm_pF h a0 9 0 (.int (mm_i 0)) fun h_1 =>
  mm_gI h_1 a0 9 24 fun v_2 =>
  (mm_br (v_2 = (mm_i 0)) (
  (mm_bz (mm_i 0) (some (.inl (some (.int (mm_i 0))), h_1)))) (
  mm_gR h_1 a0 9 1 fun p_3 =>
    mm_gR h_1 a0 9 21 fun p_4 =>
    mm_cV [] (cl 225 [.ref p_3, .ref p_4] h_1) fun h_5 =>
    mm_gR h_5 a0 9 5 fun p_6 =>
    mm_gR h_5 a0 9 22 fun p_7 =>
    mm_cV [] (cl 225 [.ref p_6, .ref p_7] h_5) fun h_8 =>
    mm_gR h_8 a0 9 6 fun p_9 =>
    mm_gR h_8 a0 9 23 fun p_10 =>
    mm_cV [] (cl 225 [.ref p_9, .ref p_10] h_8) fun h_11 =>
    mm_r227_47 E cl n a0 h_11)) := (rfl)
set_option maxRecDepth 20000 in
set_option maxHeartbeats 4000000 in
theorem mm_e227_47 (E : mm_E) (cl : mm_F) (n : Nat) (a0 : Nat) (h : mm_H) :
  mm_r227_47 E cl (n + 1) a0 h =
  mm_pF h a0 9 4 (.int (mm_i 0)) fun h_1 =>
  (mm_bz (mm_i 1) (some (.inl (some (.int (mm_i 1))), h_1))) := (rfl)
-- Mod.feed
noncomputable def mm_r228_0 (E : mm_E) (cl : mm_F) (n : Nat) (a0 : Nat) (x1 : Int32) (x2 : Int32) (x3 : Int32) (x4 : Int32) (x5 : Int32) (h : mm_H) : mm_R := mm_run E cl mm_m228 n 0 [some (.ref a0), some (.int x1), some (.int x2), some (.int x3), some (.int x4), some (.int x5), none, none] [] h
noncomputable def mm_r228_23 (E : mm_E) (cl : mm_F) (n : Nat) (a0 : Nat) (x1 : Int32) (x2 : Int32) (x3 : Int32) (x4 : Int32) (x5 : Int32) (x6 : Int32) (o7 : Option Value) (h : mm_H) : mm_R := mm_run E cl mm_m228 n 23 [some (.ref a0), some (.int x1), some (.int x2), some (.int x3), some (.int x4), some (.int x5), some (.int x6), o7] [] h
noncomputable def mm_r228_76 (E : mm_E) (cl : mm_F) (n : Nat) (a0 : Nat) (x1 : Int32) (x2 : Int32) (x3 : Int32) (x4 : Int32) (x5 : Int32) (x6 : Int32) (o7 : Option Value) (s0 : Int32) (h : mm_H) : mm_R := mm_run E cl mm_m228 n 76 [some (.ref a0), some (.int x1), some (.int x2), some (.int x3), some (.int x4), some (.int x5), some (.int x6), o7] [.int s0] h
noncomputable def mm_r228_104 (E : mm_E) (cl : mm_F) (n : Nat) (a0 : Nat) (x1 : Int32) (x2 : Int32) (x3 : Int32) (x4 : Int32) (x5 : Int32) (x6 : Int32) (x7 : Int32) (h : mm_H) : mm_R := mm_run E cl mm_m228 n 104 [some (.ref a0), some (.int x1), some (.int x2), some (.int x3), some (.int x4), some (.int x5), some (.int x6), some (.int x7)] [] h
set_option maxRecDepth 20000 in
set_option maxHeartbeats 4000000 in
theorem mm_e228_0 (E : mm_E) (cl : mm_F) (n : Nat) (a0 : Nat) (x1 : Int32) (x2 : Int32) (x3 : Int32) (x4 : Int32) (x5 : Int32) (h : mm_H) :
  mm_r228_0 E cl (n + 1) a0 x1 x2 x3 x4 x5 h =
  mm_pF h a0 9 0 (.int (mm_i 0)) fun h_1 =>
  mm_gI h_1 a0 9 26 fun v_2 =>
  (mm_br ((v_2 + (mm_i 20)) ≤ (mm_i 400)) (
  mm_r228_23 E cl n a0 x1 x2 x3 x4 x5 (mm_i 0) none h_1) (
  some (.inl (some (.int (mm_i (-1)))), h_1))) := (rfl)
set_option maxRecDepth 20000 in
set_option maxHeartbeats 4000000 in
theorem mm_e228_23 (E : mm_E) (cl : mm_F) (n : Nat) (a0 : Nat) (x1 : Int32) (x2 : Int32) (x3 : Int32) (x4 : Int32) (x5 : Int32) (x6 : Int32) (o7 : Option Value) (h : mm_H) :
  mm_r228_23 E cl (n + 1) a0 x1 x2 x3 x4 x5 x6 o7 h =
  (mm_br ((mm_i 20) ≤ x6) (
  mm_gI h a0 9 26 fun v_1 =>
    some (.inl (some (.int v_1)), h)) (
  (mm_br ((mm_i 4) ≤ x6) (
    (mm_br ((mm_i 8) ≤ x6) (
      (mm_br ((mm_i 12) ≤ x6) (
        (mm_br ((mm_i 16) ≤ x6) (
          mm_r228_76 E cl n a0 x1 x2 x3 x4 x5 x6 o7 x5 h) (
          mm_r228_76 E cl n a0 x1 x2 x3 x4 x5 x6 o7 x4 h))) (
        mm_r228_76 E cl n a0 x1 x2 x3 x4 x5 x6 o7 x3 h))) (
      mm_r228_76 E cl n a0 x1 x2 x3 x4 x5 x6 o7 x2 h))) (
    mm_r228_76 E cl n a0 x1 x2 x3 x4 x5 x6 o7 x1 h)))) := (rfl)
set_option maxRecDepth 20000 in
set_option maxHeartbeats 4000000 in
theorem mm_e228_76 (E : mm_E) (cl : mm_F) (n : Nat) (a0 : Nat) (x1 : Int32) (x2 : Int32) (x3 : Int32) (x4 : Int32) (x5 : Int32) (x6 : Int32) (o7 : Option Value) (s0 : Int32) (h : mm_H) :
  mm_r228_76 E cl (n + 1) a0 x1 x2 x3 x4 x5 x6 o7 s0 h =
  mm_gR h a0 9 25 fun p_1 =>
  mm_gI h a0 9 26 fun v_2 =>
  (mm_nz (mm_i 4) (
  mm_wI h p_1 v_2 ((s0 >>> (((mm_i 24) - ((mm_i 8) * (x6 - x6 / (mm_i 4) * (mm_i 4)))) &&& 31)) &&& (mm_i 255)) fun h_3 =>
  mm_r228_104 E cl n a0 x1 x2 x3 x4 x5 x6 s0 h_3)) := (rfl)
set_option maxRecDepth 20000 in
set_option maxHeartbeats 4000000 in
theorem mm_e228_104 (E : mm_E) (cl : mm_F) (n : Nat) (a0 : Nat) (x1 : Int32) (x2 : Int32) (x3 : Int32) (x4 : Int32) (x5 : Int32) (x6 : Int32) (x7 : Int32) (h : mm_H) :
  mm_r228_104 E cl (n + 1) a0 x1 x2 x3 x4 x5 x6 x7 h =
  mm_gI h a0 9 26 fun v_1 =>
  mm_pF h a0 9 26 (.int (v_1 + (mm_i 1))) fun h_2 =>
  mm_r228_23 E cl n a0 x1 x2 x3 x4 x5 (x6 + (mm_i 1)) (some (.int x7)) h_2 := (rfl)
-- Mod.byteAt
noncomputable def mm_r229_0 (E : mm_E) (cl : mm_F) (n : Nat) (a0 : Nat) (x1 : Int32) (h : mm_H) : mm_R := mm_run E cl mm_m229 n 0 [some (.ref a0), some (.int x1)] [] h
set_option maxRecDepth 20000 in
set_option maxHeartbeats 4000000 in
theorem mm_e229_0 (E : mm_E) (cl : mm_F) (n : Nat) (a0 : Nat) (x1 : Int32) (h : mm_H) :
  mm_r229_0 E cl (n + 1) a0 x1 h =
  mm_gI h a0 9 27 fun v_1 =>
  (mm_br (v_1 ≤ x1) (
  some (.inl (some (.int (mm_i (-1)))), h)) (
  mm_gR h a0 9 25 fun p_2 =>
    mm_rI E h p_2 x1 fun v_3 =>
    some (.inl (some (.int v_3)), h))) := (rfl)
-- Mod.isSmall
noncomputable def mm_r230_0 (E : mm_E) (cl : mm_F) (n : Nat) (x0 : Int32) (h : mm_H) : mm_R := mm_run E cl mm_m230 n 0 [some (.int x0)] [] h
set_option maxRecDepth 20000 in
set_option maxHeartbeats 4000000 in
theorem mm_e230_0 (E : mm_E) (cl : mm_F) (n : Nat) (x0 : Int32) (h : mm_H) :
  mm_r230_0 E cl (n + 1) x0 h =
  (mm_br (x0 < (mm_i 97)) (
  (mm_bz (mm_i 0) (some (.inl (some (.int (mm_i 0))), h)))) (
  (mm_br ((mm_i 122) < x0) (
    (mm_bz (mm_i 0) (some (.inl (some (.int (mm_i 0))), h)))) (
    (mm_bz (mm_i 1) (some (.inl (some (.int (mm_i 1))), h))))))) := (rfl)
-- Mod.isFigure
noncomputable def mm_r231_0 (E : mm_E) (cl : mm_F) (n : Nat) (x0 : Int32) (h : mm_H) : mm_R := mm_run E cl mm_m231 n 0 [some (.int x0)] [] h
set_option maxRecDepth 20000 in
set_option maxHeartbeats 4000000 in
theorem mm_e231_0 (E : mm_E) (cl : mm_F) (n : Nat) (x0 : Int32) (h : mm_H) :
  mm_r231_0 E cl (n + 1) x0 h =
  (mm_br (x0 < (mm_i 48)) (
  (mm_bz (mm_i 0) (some (.inl (some (.int (mm_i 0))), h)))) (
  (mm_br ((mm_i 57) < x0) (
    (mm_bz (mm_i 0) (some (.inl (some (.int (mm_i 0))), h)))) (
    (mm_bz (mm_i 1) (some (.inl (some (.int (mm_i 1))), h))))))) := (rfl)
-- Mod.step
noncomputable def mm_r232_0 (E : mm_E) (cl : mm_F) (n : Nat) (a0 : Nat) (h : mm_H) : mm_R := mm_run E cl mm_m232 n 0 [some (.ref a0), none] [] h
noncomputable def mm_r232_56 (E : mm_E) (cl : mm_F) (n : Nat) (a0 : Nat) (x1 : Int32) (h : mm_H) : mm_R := mm_run E cl mm_m232 n 56 [some (.ref a0), some (.int x1)] [] h
noncomputable def mm_r232_76 (E : mm_E) (cl : mm_F) (n : Nat) (a0 : Nat) (x1 : Int32) (h : mm_H) : mm_R := mm_run E cl mm_m232 n 76 [some (.ref a0), some (.int x1)] [] h
noncomputable def mm_r232_118 (E : mm_E) (cl : mm_F) (n : Nat) (a0 : Nat) (x1 : Int32) (h : mm_H) : mm_R := mm_run E cl mm_m232 n 118 [some (.ref a0), some (.int x1)] [] h
set_option maxRecDepth 20000 in
set_option maxHeartbeats 4000000 in
theorem mm_e232_0 (E : mm_E) (cl : mm_F) (n : Nat) (a0 : Nat) (h : mm_H) :
  mm_r232_0 E cl (n + 1) a0 h =
  mm_gI h a0 9 28 fun v_1 =>
  mm_cI [] (cl 229 [.ref a0, .int v_1] h) fun v_3 h_2 =>
  (mm_br (v_3 = (mm_i 32)) (
  mm_gI h_2 a0 9 28 fun v_4 =>
    mm_pF h_2 a0 9 28 (.int (v_4 + (mm_i 1))) fun h_5 =>
    mm_r232_0 E cl n a0 h_5) (
  mm_gI h_2 a0 9 28 fun v_6 =>
    mm_cI [] (cl 229 [.ref a0, .int v_6] h_2) fun v_8 h_7 =>
    (mm_br (v_8 = (mm_i 10)) (
    mm_gI h_7 a0 9 28 fun v_14 =>
      mm_pF h_7 a0 9 28 (.int (v_14 + (mm_i 1))) fun h_15 =>
      mm_r232_0 E cl n a0 h_15) (
    mm_gI h_7 a0 9 28 fun v_9 =>
      mm_pF h_7 a0 9 30 (.int v_9) fun h_10 =>
      mm_gI h_10 a0 9 28 fun v_11 =>
      mm_cI [] (cl 229 [.ref a0, .int v_11] h_10) fun v_13 h_12 =>
      mm_r232_56 E cl n a0 v_13 h_12)))) := (rfl)
set_option maxRecDepth 20000 in
set_option maxHeartbeats 4000000 in
theorem mm_e232_56 (E : mm_E) (cl : mm_F) (n : Nat) (a0 : Nat) (x1 : Int32) (h : mm_H) :
  mm_r232_56 E cl (n + 1) a0 x1 h =
  (mm_br (x1 = (mm_i (-1))) (
  mm_pF h a0 9 29 (.int (mm_i 0)) fun h_10 =>
    mm_gI h_10 a0 9 28 fun v_11 =>
    mm_pF h_10 a0 9 31 (.int v_11) fun h_12 =>
    some (.inl none, h_12)) (
  mm_cI [] (cl 230 [.int x1] h) fun v_2 h_1 =>
    (mm_br (v_2 = (mm_i 0)) (
    mm_cI [] (cl 231 [.int x1] h_1) fun v_4 h_3 =>
      (mm_br (v_4 = (mm_i 0)) (
      mm_gI h_3 a0 9 28 fun v_5 =>
        mm_pF h_3 a0 9 28 (.int (v_5 + (mm_i 1))) fun h_6 =>
        mm_pF h_6 a0 9 29 (.int (mm_i 3)) fun h_7 =>
        mm_gI h_7 a0 9 28 fun v_8 =>
        mm_pF h_7 a0 9 31 (.int v_8) fun h_9 =>
        some (.inl none, h_9)) (
      mm_r232_118 E cl n a0 x1 h_3))) (
    mm_r232_76 E cl n a0 x1 h_1)))) := (rfl)
set_option maxRecDepth 20000 in
set_option maxHeartbeats 4000000 in
theorem mm_e232_76 (E : mm_E) (cl : mm_F) (n : Nat) (a0 : Nat) (x1 : Int32) (h : mm_H) :
  mm_r232_76 E cl (n + 1) a0 x1 h =
  mm_gI h a0 9 28 fun v_1 =>
  mm_cI [] (cl 229 [.ref a0, .int v_1] h) fun v_3 h_2 =>
  mm_cI [] (cl 230 [.int v_3] h_2) fun v_5 h_4 =>
  (mm_br (v_5 = (mm_i 0)) (
  mm_pF h_4 a0 9 29 (.int (mm_i 1)) fun h_6 =>
    mm_gI h_6 a0 9 28 fun v_7 =>
    mm_pF h_6 a0 9 31 (.int v_7) fun h_8 =>
    some (.inl none, h_8)) (
  mm_gI h_4 a0 9 28 fun v_9 =>
    mm_pF h_4 a0 9 28 (.int (v_9 + (mm_i 1))) fun h_10 =>
    mm_r232_76 E cl n a0 x1 h_10)) := (rfl)
set_option maxRecDepth 20000 in
set_option maxHeartbeats 4000000 in
theorem mm_e232_118 (E : mm_E) (cl : mm_F) (n : Nat) (a0 : Nat) (x1 : Int32) (h : mm_H) :
  mm_r232_118 E cl (n + 1) a0 x1 h =
  mm_gI h a0 9 28 fun v_1 =>
  mm_cI [] (cl 229 [.ref a0, .int v_1] h) fun v_3 h_2 =>
  mm_cI [] (cl 231 [.int v_3] h_2) fun v_5 h_4 =>
  (mm_br (v_5 = (mm_i 0)) (
  mm_pF h_4 a0 9 29 (.int (mm_i 2)) fun h_6 =>
    mm_gI h_6 a0 9 28 fun v_7 =>
    mm_pF h_6 a0 9 31 (.int v_7) fun h_8 =>
    some (.inl none, h_8)) (
  mm_gI h_4 a0 9 28 fun v_9 =>
    mm_pF h_4 a0 9 28 (.int (v_9 + (mm_i 1))) fun h_10 =>
    mm_r232_118 E cl n a0 x1 h_10)) := (rfl)
-- Mod.wrong
noncomputable def mm_r233_0 (E : mm_E) (cl : mm_F) (n : Nat) (a0 : Nat) (x1 : Int32) (h : mm_H) : mm_R := mm_run E cl mm_m233 n 0 [some (.ref a0), some (.int x1)] [] h
set_option maxRecDepth 20000 in
set_option maxHeartbeats 4000000 in
theorem mm_e233_0 (E : mm_E) (cl : mm_F) (n : Nat) (a0 : Nat) (x1 : Int32) (h : mm_H) :
  mm_r233_0 E cl (n + 1) a0 x1 h =
  mm_gI h a0 9 32 fun v_1 =>
  (mm_br (v_1 = (mm_i 0)) (
  mm_pF h a0 9 32 (.int x1) fun h_2 =>
    mm_gI h_2 a0 9 30 fun v_3 =>
    mm_pF h_2 a0 9 33 (.int v_3) fun h_4 =>
    some (.inl none, h_4)) (
  some (.inl none, h))) := (rfl)
-- Mod.isSign
noncomputable def mm_r234_0 (E : mm_E) (cl : mm_F) (n : Nat) (a0 : Nat) (x1 : Int32) (h : mm_H) : mm_R := mm_run E cl mm_m234 n 0 [some (.ref a0), some (.int x1)] [] h
set_option maxRecDepth 20000 in
set_option maxHeartbeats 4000000 in
theorem mm_e234_0 (E : mm_E) (cl : mm_F) (n : Nat) (a0 : Nat) (x1 : Int32) (h : mm_H) :
  mm_r234_0 E cl (n + 1) a0 x1 h =
  mm_gI h a0 9 32 fun v_1 =>
  (mm_br (v_1 = (mm_i 0)) (
  mm_gI h a0 9 29 fun v_2 =>
    (mm_br (v_2 = (mm_i 3)) (
    mm_gR h a0 9 25 fun p_3 =>
      mm_gI h a0 9 30 fun v_4 =>
      mm_rI E h p_3 v_4 fun v_5 =>
      (mm_br (v_5 = x1) (
      (mm_bz (mm_i 1) (some (.inl (some (.int (mm_i 1))), h)))) (
      (mm_bz (mm_i 0) (some (.inl (some (.int (mm_i 0))), h)))))) (
    (mm_bz (mm_i 0) (some (.inl (some (.int (mm_i 0))), h)))))) (
  (mm_bz (mm_i 0) (some (.inl (some (.int (mm_i 0))), h))))) := (rfl)
-- Mod.isWord
noncomputable def mm_r235_0 (E : mm_E) (cl : mm_F) (n : Nat) (a0 : Nat) (a1 : Nat) (h : mm_H) : mm_R := mm_run E cl mm_m235 n 0 [some (.ref a0), some (.ref a1), none, none] [] h
noncomputable def mm_r235_39 (E : mm_E) (cl : mm_F) (n : Nat) (a0 : Nat) (a1 : Nat) (x2 : Int32) (x3 : Int32) (h : mm_H) : mm_R := mm_run E cl mm_m235 n 39 [some (.ref a0), some (.ref a1), some (.int x2), some (.int x3)] [] h
set_option maxRecDepth 20000 in
set_option maxHeartbeats 4000000 in
theorem mm_e235_0 (E : mm_E) (cl : mm_F) (n : Nat) (a0 : Nat) (a1 : Nat) (h : mm_H) :
  mm_r235_0 E cl (n + 1) a0 a1 h =
  mm_gI h a0 9 32 fun v_1 =>
  (mm_br (v_1 = (mm_i 0)) (
  mm_gI h a0 9 29 fun v_2 =>
    (mm_br (v_2 = (mm_i 1)) (
    mm_sl E a1 fun v_3 =>
      mm_gI h a0 9 31 fun v_4 =>
      mm_gI h a0 9 30 fun v_5 =>
      (mm_br (v_3 = (v_4 - v_5)) (
      mm_r235_39 E cl n a0 a1 (mm_i 1) (mm_i 0) h) (
      mm_r235_39 E cl n a0 a1 (mm_i 0) (mm_i 0) h))) (
    mm_r235_39 E cl n a0 a1 (mm_i 0) (mm_i 0) h))) (
  mm_r235_39 E cl n a0 a1 (mm_i 0) (mm_i 0) h)) := (rfl)
set_option maxRecDepth 20000 in
set_option maxHeartbeats 4000000 in
theorem mm_e235_39 (E : mm_E) (cl : mm_F) (n : Nat) (a0 : Nat) (a1 : Nat) (x2 : Int32) (x3 : Int32) (h : mm_H) :
  mm_r235_39 E cl (n + 1) a0 a1 x2 x3 h =
  (mm_br (x2 = (mm_i 0)) (
  (mm_bz x2 (some (.inl (some (.int x2)), h)))) (
  mm_sl E a1 fun v_1 =>
    (mm_br (v_1 ≤ x3) (
    (mm_bz x2 (some (.inl (some (.int x2)), h)))) (
    mm_sa E a1 x3 fun v_2 =>
      mm_gR h a0 9 25 fun p_3 =>
      mm_gI h a0 9 30 fun v_4 =>
      mm_rI E h p_3 (v_4 + x3) fun v_5 =>
      (mm_br (v_2 = v_5) (
      mm_r235_39 E cl n a0 a1 (mm_i 1) (x3 + (mm_i 1)) h) (
      mm_r235_39 E cl n a0 a1 (mm_i 0) (x3 + (mm_i 1)) h)))))) := (rfl)
