/-! EQUATIONS of the runs, part 4 (by program: wip/whole/genpure.py) -/
-- Mod.stage
def mm_r170_0 (E : mm_E) (cl : mm_F) (n : Nat) (a0 : Nat) (x1 : Int32) (x2 : Int32) (h : mm_H) : mm_R := mm_run E cl mm_m170 n 0 [some (.ref a0), some (.int x1), some (.int x2)] [] h
set_option maxRecDepth 20000 in
set_option maxHeartbeats 4000000 in
theorem mm_e170_0 (E : mm_E) (cl : mm_F) (n : Nat) (a0 : Nat) (x1 : Int32) (x2 : Int32) (h : mm_H) :
  mm_r170_0 E cl (n + 1) a0 x1 x2 h =
  mm_pF h a0 9 0 (.int (mm_i 0)) fun h_1 =>
  mm_cI [] (cl 151 [.ref a0, .int x1] h_1) fun v_3 h_2 =>
  (mm_br (v_3 = (mm_i 0)) (
  mm_cI [] (cl 146 [.ref a0, .int (mm_i 1)] h_2) fun v_5 h_4 =>
    some (.inl (some (.int v_5)), h_4)) (
  mm_cI [] (cl 147 [.int x2, .int (mm_i 0), .int (mm_i 11)] h_2) fun v_7 h_6 =>
    (mm_br (v_7 = (mm_i 0)) (
    mm_cI [] (cl 146 [.ref a0, .int (mm_i 1)] h_6) fun v_21 h_20 =>
      some (.inl (some (.int v_21)), h_20)) (
    (mm_br (x2 = (mm_i 7)) (
      mm_cI [] (cl 162 [.ref a0, .int x1, .int (mm_i 3)] h_6) fun v_19 h_18 =>
        some (.inl (some (.int v_19)), h_18)) (
      (mm_br (x2 = (mm_i 8)) (
      mm_cI [] (cl 162 [.ref a0, .int x1, .int (mm_i 4)] h_6) fun v_17 h_16 =>
        some (.inl (some (.int v_17)), h_16)) (
      (mm_br (x2 = (mm_i 9)) (
      mm_cI [] (cl 163 [.ref a0, .int x1] h_6) fun v_15 h_14 =>
        some (.inl (some (.int v_15)), h_14)) (
      (mm_br (x2 = (mm_i 10)) (
      mm_cI [] (cl 157 [.ref a0, .int x1] h_6) fun v_13 h_12 =>
        some (.inl (some (.int v_13)), h_12)) (
      (mm_br (x2 = (mm_i 11)) (
      mm_cI [] (cl 158 [.ref a0, .int x1] h_6) fun v_11 h_10 =>
        some (.inl (some (.int v_11)), h_10)) (
      mm_cI [] (cl 152 [.ref a0, .int x1, .int x2] h_6) fun v_9 h_8 =>
      some (.inl (some (.int v_9)), h_8))))))))))))))) := rfl
-- Mod.keep
def mm_r171_0 (E : mm_E) (cl : mm_F) (n : Nat) (a0 : Nat) (h : mm_H) : mm_R := mm_run E cl mm_m171 n 0 [some (.ref a0), none] [] h
def mm_r171_13 (E : mm_E) (cl : mm_F) (n : Nat) (a0 : Nat) (x1 : Int32) (h : mm_H) : mm_R := mm_run E cl mm_m171 n 13 [some (.ref a0), some (.int x1)] [] h
def mm_r171_54 (E : mm_E) (cl : mm_F) (n : Nat) (a0 : Nat) (x1 : Int32) (h : mm_H) : mm_R := mm_run E cl mm_m171 n 54 [some (.ref a0), some (.int x1)] [] h
set_option maxRecDepth 20000 in
set_option maxHeartbeats 4000000 in
theorem mm_e171_0 (E : mm_E) (cl : mm_F) (n : Nat) (a0 : Nat) (h : mm_H) :
  mm_r171_0 E cl (n + 1) a0 h =
  mm_gI h a0 9 4 fun v_1 =>
  (mm_br (v_1 = (mm_i 20)) (
  mm_r171_13 E cl n a0 (mm_i 190) h) (
  mm_r171_54 E cl n a0 (mm_i 0) h)) := rfl
set_option maxRecDepth 20000 in
set_option maxHeartbeats 4000000 in
theorem mm_e171_13 (E : mm_E) (cl : mm_F) (n : Nat) (a0 : Nat) (x1 : Int32) (h : mm_H) :
  mm_r171_13 E cl (n + 1) a0 x1 h =
  (mm_br ((mm_i 3800) ≤ x1) (
  mm_gI h a0 9 4 fun v_1 =>
    mm_pF h a0 9 4 (.int (v_1 - (mm_i 1))) fun h_2 =>
    mm_r171_54 E cl n a0 (mm_i 0) h_2) (
  mm_gR h a0 9 3 fun p_3 =>
    mm_gR h a0 9 3 fun p_4 =>
    mm_rI E h p_4 x1 fun v_5 =>
    mm_wI h p_3 (x1 - (mm_i 190)) v_5 fun h_6 =>
    mm_r171_13 E cl n a0 (x1 + (mm_i 1)) h_6)) := rfl
set_option maxRecDepth 20000 in
set_option maxHeartbeats 4000000 in
theorem mm_e171_54 (E : mm_E) (cl : mm_F) (n : Nat) (a0 : Nat) (x1 : Int32) (h : mm_H) :
  mm_r171_54 E cl (n + 1) a0 x1 h =
  (mm_br ((mm_i 190) ≤ x1) (
  mm_gI h a0 9 4 fun v_1 =>
    mm_pF h a0 9 4 (.int (v_1 + (mm_i 1))) fun h_2 =>
    some (.inl none, h_2)) (
  mm_gR h a0 9 3 fun p_3 =>
    mm_gI h a0 9 4 fun v_4 =>
    mm_gR h a0 9 1 fun p_5 =>
    mm_rI E h p_5 x1 fun v_6 =>
    mm_wI h p_3 (((mm_i 190) * v_4) + x1) v_6 fun h_7 =>
    mm_r171_54 E cl n a0 (x1 + (mm_i 1)) h_7)) := rfl
-- Mod.mostOf
def mm_r172_0 (E : mm_E) (cl : mm_F) (n : Nat) (x0 : Int32) (h : mm_H) : mm_R := mm_run E cl mm_m172 n 0 [some (.int x0)] [] h
set_option maxRecDepth 20000 in
set_option maxHeartbeats 4000000 in
theorem mm_e172_0 (E : mm_E) (cl : mm_F) (n : Nat) (x0 : Int32) (h : mm_H) :
  mm_r172_0 E cl (n + 1) x0 h =
  (mm_br (x0 = (mm_i 0)) (
  some (.inl (some (.int (mm_i 9))), h)) (
  (mm_br (x0 = (mm_i 1)) (
  some (.inl (some (.int (mm_i 999))), h)) (
  (mm_br (x0 = (mm_i 2)) (
  some (.inl (some (.int (mm_i 9))), h)) (
  (mm_br (x0 = (mm_i 3)) (
  some (.inl (some (.int (mm_i 99))), h)) (
  (mm_br (x0 = (mm_i 4)) (
  some (.inl (some (.int (mm_i 9999))), h)) (
  (mm_br (x0 = (mm_i 5)) (
  some (.inl (some (.int (mm_i 20))), h)) (
  some (.inl (some (.int (mm_i 400))), h))))))))))))) := rfl
-- Mod.change
def mm_r173_0 (E : mm_E) (cl : mm_F) (n : Nat) (a0 : Nat) (x1 : Int32) (x2 : Int32) (x3 : Int32) (h : mm_H) : mm_R := mm_run E cl mm_m173 n 0 [some (.ref a0), some (.int x1), some (.int x2), some (.int x3), none, none] [] h
def mm_r173_55 (E : mm_E) (cl : mm_F) (n : Nat) (a0 : Nat) (x1 : Int32) (x2 : Int32) (x3 : Int32) (o4 : Option Value) (o5 : Option Value) (b0 : Nat) (s1 : Int32) (h : mm_H) : mm_R := mm_run E cl mm_m173 n 55 [some (.ref a0), some (.int x1), some (.int x2), some (.int x3), o4, o5] [.int s1, .ref b0] h
set_option maxRecDepth 20000 in
set_option maxHeartbeats 4000000 in
theorem mm_e173_0 (E : mm_E) (cl : mm_F) (n : Nat) (a0 : Nat) (x1 : Int32) (x2 : Int32) (x3 : Int32) (h : mm_H) :
  mm_r173_0 E cl (n + 1) a0 x1 x2 x3 h =
  mm_cI [] (cl 147 [.int x2, .int (mm_i 0), .int (mm_i 6)] h) fun v_2 h_1 =>
  (mm_br (v_2 = (mm_i 0)) (
  mm_r173_55 E cl n a0 x1 x2 x3 none none a0 (mm_i 1) h_1) (
  (mm_br ((mm_i 6) ≤ x2) (
    (mm_br (x2 = (mm_i 5)) (
      mm_cI [] (cl 172 [.int x2] h_1) fun v_8 h_7 =>
        mm_cI [] (cl 147 [.int x3, .int (mm_i (-1)), .int v_8] h_7) fun v_10 h_9 =>
        (mm_br (v_10 = (mm_i 0)) (
        mm_r173_55 E cl n a0 x1 x2 x3 none none a0 (mm_i 2) h_9) (
        mm_r173_55 E cl n a0 x1 x2 x3 none none a0 (mm_i 0) h_9))) (
      mm_cI [] (cl 172 [.int x2] h_1) fun v_4 h_3 =>
        mm_cI [] (cl 147 [.int x3, .int (mm_i 0), .int v_4] h_3) fun v_6 h_5 =>
        (mm_br (v_6 = (mm_i 0)) (
        mm_r173_55 E cl n a0 x1 x2 x3 none none a0 (mm_i 2) h_5) (
        mm_r173_55 E cl n a0 x1 x2 x3 none none a0 (mm_i 0) h_5))))) (
    mm_cI [] (cl 151 [.ref a0, .int x1] h_1) fun v_12 h_11 =>
      (mm_br (v_12 = (mm_i 0)) (
      mm_r173_55 E cl n a0 x1 x2 x3 none none a0 (mm_i 1) h_11) (
      (mm_br (x2 = (mm_i 5)) (
        mm_cI [] (cl 172 [.int x2] h_11) fun v_18 h_17 =>
          mm_cI [] (cl 147 [.int x3, .int (mm_i (-1)), .int v_18] h_17) fun v_20 h_19 =>
          (mm_br (v_20 = (mm_i 0)) (
          mm_r173_55 E cl n a0 x1 x2 x3 none none a0 (mm_i 2) h_19) (
          mm_r173_55 E cl n a0 x1 x2 x3 none none a0 (mm_i 0) h_19))) (
        mm_cI [] (cl 172 [.int x2] h_11) fun v_14 h_13 =>
          mm_cI [] (cl 147 [.int x3, .int (mm_i 0), .int v_14] h_13) fun v_16 h_15 =>
          (mm_br (v_16 = (mm_i 0)) (
          mm_r173_55 E cl n a0 x1 x2 x3 none none a0 (mm_i 2) h_15) (
          mm_r173_55 E cl n a0 x1 x2 x3 none none a0 (mm_i 0) h_15)))))))))) := rfl
set_option maxRecDepth 20000 in
set_option maxHeartbeats 4000000 in
theorem mm_e173_55 (E : mm_E) (cl : mm_F) (n : Nat) (a0 : Nat) (x1 : Int32) (x2 : Int32) (x3 : Int32) (o4 : Option Value) (o5 : Option Value) (b0 : Nat) (s1 : Int32) (h : mm_H) :
  mm_r173_55 E cl (n + 1) a0 x1 x2 x3 o4 o5 b0 s1 h =
  mm_pF h b0 9 0 (.int s1) fun h_1 =>
  mm_gI h_1 a0 9 0 fun v_2 =>
  (mm_br (v_2 ≤ (mm_i 0)) (
  mm_cV [] (cl 171 [.ref a0] h_1) fun h_3 =>
    (mm_br (x2 = (mm_i 6)) (
    mm_gR h_3 a0 9 1 fun p_8 =>
      mm_rI E h_3 p_8 (mm_i 1) fun v_9 =>
      mm_gR h_3 a0 9 1 fun p_10 =>
      mm_wI h_3 p_10 (mm_i 1) x3 fun h_11 =>
      some (.inl (some (.int v_9)), h_11)) (
    mm_gR h_3 a0 9 1 fun p_4 =>
      mm_rI E h_3 p_4 (((mm_i 3) + ((mm_i 7) * x1)) + x2) fun v_5 =>
      mm_gR h_3 a0 9 1 fun p_6 =>
      mm_wI h_3 p_6 (((mm_i 3) + ((mm_i 7) * x1)) + x2) x3 fun h_7 =>
      some (.inl (some (.int v_5)), h_7)))) (
  some (.inl (some (.int (mm_i 0))), h_1))) := rfl
-- Mod.add
def mm_r174_0 (E : mm_E) (cl : mm_F) (n : Nat) (a0 : Nat) (x1 : Int32) (x2 : Int32) (x3 : Int32) (x4 : Int32) (h : mm_H) : mm_R := mm_run E cl mm_m174 n 0 [some (.ref a0), some (.int x1), some (.int x2), some (.int x3), some (.int x4), none, none] [] h
def mm_r174_71 (E : mm_E) (cl : mm_F) (n : Nat) (a0 : Nat) (x1 : Int32) (x2 : Int32) (x3 : Int32) (x4 : Int32) (x5 : Int32) (x6 : Int32) (h : mm_H) : mm_R := mm_run E cl mm_m174 n 71 [some (.ref a0), some (.int x1), some (.int x2), some (.int x3), some (.int x4), some (.int x5), some (.int x6)] [] h
set_option maxRecDepth 20000 in
set_option maxHeartbeats 4000000 in
theorem mm_e174_0 (E : mm_E) (cl : mm_F) (n : Nat) (a0 : Nat) (x1 : Int32) (x2 : Int32) (x3 : Int32) (x4 : Int32) (h : mm_H) :
  mm_r174_0 E cl (n + 1) a0 x1 x2 x3 x4 h =
  mm_pF h a0 9 0 (.int (mm_i 0)) fun h_1 =>
  mm_cI [] (cl 150 [.ref a0] h_1) fun v_3 h_2 =>
  (mm_br (v_3 = (mm_i 12)) (
  some (.inl (some (.int (mm_i (-1)))), h_2)) (
  mm_cI [] (cl 151 [.ref a0, .int x1] h_2) fun v_5 h_4 =>
    (mm_br (v_5 = (mm_i 0)) (
    some (.inl (some (.int (mm_i (-1)))), h_4)) (
    mm_cI [] (cl 147 [.int x3, .int (mm_i 0), .int (mm_i 9)] h_4) fun v_7 h_6 =>
      (mm_br (v_7 = (mm_i 0)) (
      some (.inl (some (.int (mm_i (-1)))), h_6)) (
      mm_cI [] (cl 147 [.int x4, .int (mm_i 0), .int (mm_i 999)] h_6) fun v_9 h_8 =>
        (mm_br (v_9 = (mm_i 0)) (
        some (.inl (some (.int (mm_i (-1)))), h_8)) (
        mm_cV [] (cl 171 [.ref a0] h_8) fun h_10 =>
          mm_cI [] (cl 150 [.ref a0] h_10) fun v_12 h_11 =>
          mm_gR h_11 a0 9 1 fun p_13 =>
          mm_cV [] (cl 153 [.ref p_13, .int v_12, .int x3, .int x4] h_11) fun h_14 =>
          mm_r174_71 E cl n a0 x1 x2 x3 x4 v_12 (mm_i 0) h_14)))))))) := rfl
set_option maxRecDepth 20000 in
set_option maxHeartbeats 4000000 in
theorem mm_e174_71 (E : mm_E) (cl : mm_F) (n : Nat) (a0 : Nat) (x1 : Int32) (x2 : Int32) (x3 : Int32) (x4 : Int32) (x5 : Int32) (x6 : Int32) (h : mm_H) :
  mm_r174_71 E cl (n + 1) a0 x1 x2 x3 x4 x5 x6 h =
  (mm_br ((mm_i 6) ≤ x6) (
  mm_gR h a0 9 1 fun p_1 =>
    mm_rI E h p_1 (mm_i 0) fun v_2 =>
    mm_wI h p_1 (mm_i 0) (v_2 + (mm_i 1)) fun h_3 =>
    (mm_br (x2 = (mm_i 0)) (
    mm_gR h_3 a0 9 1 fun p_4 =>
      mm_cV [] (cl 154 [.ref p_4, .int x1, .int x5] h_3) fun h_5 =>
      mm_cV [] (cl 177 [.ref a0, .int x5] h_5) fun h_6 =>
      some (.inl (some (.int x5)), h_6)) (
    mm_gR h_3 a0 9 1 fun p_7 =>
      mm_cV [] (cl 154 [.ref p_7, .int x5, .int x1] h_3) fun h_8 =>
      mm_cV [] (cl 177 [.ref a0, .int x5] h_8) fun h_9 =>
      some (.inl (some (.int x5)), h_9)))) (
  mm_gR h a0 9 1 fun p_10 =>
    mm_wI h p_10 (((mm_i 87) + ((mm_i 6) * x5)) + x6) (mm_i 0) fun h_11 =>
    mm_r174_71 E cl n a0 x1 x2 x3 x4 x5 (x6 + (mm_i 1)) h_11)) := rfl
-- Mod.supply
def mm_r175_0 (E : mm_E) (cl : mm_F) (n : Nat) (a0 : Nat) (x1 : Int32) (x2 : Int32) (h : mm_H) : mm_R := mm_run E cl mm_m175 n 0 [some (.ref a0), some (.int x1), some (.int x2)] [] h
set_option maxRecDepth 20000 in
set_option maxHeartbeats 4000000 in
theorem mm_e175_0 (E : mm_E) (cl : mm_F) (n : Nat) (a0 : Nat) (x1 : Int32) (x2 : Int32) (h : mm_H) :
  mm_r175_0 E cl (n + 1) a0 x1 x2 h =
  mm_pF h a0 9 0 (.int (mm_i 0)) fun h_1 =>
  mm_cI [] (cl 151 [.ref a0, .int x1] h_1) fun v_3 h_2 =>
  (mm_br (v_3 = (mm_i 0)) (
  some (.inl (some (.int (mm_i (-1)))), h_2)) (
  mm_cI [] (cl 151 [.ref a0, .int x2] h_2) fun v_5 h_4 =>
    (mm_br (v_5 = (mm_i 0)) (
    some (.inl (some (.int (mm_i (-1)))), h_4)) (
    mm_gR h_4 a0 9 1 fun p_6 =>
      mm_cI [] (cl 161 [.ref p_6, .int x1] h_4) fun v_8 h_7 =>
      mm_cI [] (cl 159 [.int v_8, .int x2] h_7) fun v_10 h_9 =>
      (mm_br (v_10 = (mm_i 0)) (
      mm_cV [] (cl 171 [.ref a0] h_9) fun h_11 =>
        mm_gR h_11 a0 9 1 fun p_12 =>
        mm_cV [] (cl 154 [.ref p_12, .int x1, .int x2] h_11) fun h_13 =>
        mm_gR h_13 a0 9 1 fun p_14 =>
        mm_rI E h_13 p_14 (mm_i 2) fun v_15 =>
        some (.inl (some (.int v_15)), h_13)) (
      some (.inl (some (.int (mm_i (-1)))), h_9))))))) := rfl
-- Mod.pin
def mm_r176_0 (E : mm_E) (cl : mm_F) (n : Nat) (a0 : Nat) (x1 : Int32) (x2 : Int32) (h : mm_H) : mm_R := mm_run E cl mm_m176 n 0 [some (.ref a0), some (.int x1), some (.int x2), none] [] h
def mm_r176_28 (E : mm_E) (cl : mm_F) (n : Nat) (a0 : Nat) (x1 : Int32) (x2 : Int32) (o3 : Option Value) (b0 : Nat) (s1 : Int32) (h : mm_H) : mm_R := mm_run E cl mm_m176 n 28 [some (.ref a0), some (.int x1), some (.int x2), o3] [.int s1, .ref b0] h
set_option maxRecDepth 20000 in
set_option maxHeartbeats 4000000 in
theorem mm_e176_0 (E : mm_E) (cl : mm_F) (n : Nat) (a0 : Nat) (x1 : Int32) (x2 : Int32) (h : mm_H) :
  mm_r176_0 E cl (n + 1) a0 x1 x2 h =
  mm_cI [] (cl 151 [.ref a0, .int x1] h) fun v_2 h_1 =>
  (mm_br (v_2 = (mm_i 0)) (
  mm_r176_28 E cl n a0 x1 x2 none a0 (mm_i 1) h_1) (
  mm_cI [] (cl 147 [.int x2, .int (mm_i (-1)), .int (mm_i 119)] h_1) fun v_4 h_3 =>
    (mm_br (v_4 = (mm_i 0)) (
    mm_r176_28 E cl n a0 x1 x2 none a0 (mm_i 2) h_3) (
    mm_r176_28 E cl n a0 x1 x2 none a0 (mm_i 0) h_3)))) := rfl
set_option maxRecDepth 20000 in
set_option maxHeartbeats 4000000 in
theorem mm_e176_28 (E : mm_E) (cl : mm_F) (n : Nat) (a0 : Nat) (x1 : Int32) (x2 : Int32) (o3 : Option Value) (b0 : Nat) (s1 : Int32) (h : mm_H) :
  mm_r176_28 E cl (n + 1) a0 x1 x2 o3 b0 s1 h =
  mm_pF h b0 9 0 (.int s1) fun h_1 =>
  mm_gI h_1 a0 9 0 fun v_2 =>
  (mm_br (v_2 ≤ (mm_i 0)) (
  mm_cV [] (cl 171 [.ref a0] h_1) fun h_3 =>
    mm_cI [] (cl 152 [.ref a0, .int x1, .int (mm_i 6)] h_3) fun v_5 h_4 =>
    mm_gR h_4 a0 9 1 fun p_6 =>
    mm_wI h_4 p_6 (((mm_i 3) + ((mm_i 7) * x1)) + (mm_i 6)) x2 fun h_7 =>
    some (.inl (some (.int v_5)), h_7)) (
  some (.inl (some (.int (mm_i 0))), h_1))) := rfl
-- Mod.clear
def mm_r177_0 (E : mm_E) (cl : mm_F) (n : Nat) (a0 : Nat) (x1 : Int32) (h : mm_H) : mm_R := mm_run E cl mm_m177 n 0 [some (.ref a0), some (.int x1), none] [] h
def mm_r177_9 (E : mm_E) (cl : mm_F) (n : Nat) (a0 : Nat) (x1 : Int32) (x2 : Int32) (h : mm_H) : mm_R := mm_run E cl mm_m177 n 9 [some (.ref a0), some (.int x1), some (.int x2)] [] h
set_option maxRecDepth 20000 in
set_option maxHeartbeats 4000000 in
theorem mm_e177_0 (E : mm_E) (cl : mm_F) (n : Nat) (a0 : Nat) (x1 : Int32) (h : mm_H) :
  mm_r177_0 E cl (n + 1) a0 x1 h =
  mm_gR h a0 9 5 fun p_1 =>
  mm_wI h p_1 x1 (mm_i 0) fun h_2 =>
  mm_r177_9 E cl n a0 x1 (mm_i 0) h_2 := rfl
set_option maxRecDepth 20000 in
set_option maxHeartbeats 4000000 in
theorem mm_e177_9 (E : mm_E) (cl : mm_F) (n : Nat) (a0 : Nat) (x1 : Int32) (x2 : Int32) (h : mm_H) :
  mm_r177_9 E cl (n + 1) a0 x1 x2 h =
  (mm_br ((mm_i 40) ≤ x2) (
  some (.inl none, h)) (
  mm_gR h a0 9 6 fun p_1 =>
    mm_wI h p_1 (((mm_i 40) * x1) + x2) (mm_i 0) fun h_2 =>
    mm_r177_9 E cl n a0 x1 (x2 + (mm_i 1)) h_2)) := rfl
-- Mod.undo
def mm_r178_0 (E : mm_E) (cl : mm_F) (n : Nat) (a0 : Nat) (h : mm_H) : mm_R := mm_run E cl mm_m178 n 0 [some (.ref a0), none] [] h
def mm_r178_26 (E : mm_E) (cl : mm_F) (n : Nat) (a0 : Nat) (x1 : Int32) (h : mm_H) : mm_R := mm_run E cl mm_m178 n 26 [some (.ref a0), some (.int x1)] [] h
def mm_r178_65 (E : mm_E) (cl : mm_F) (n : Nat) (a0 : Nat) (x1 : Int32) (h : mm_H) : mm_R := mm_run E cl mm_m178 n 65 [some (.ref a0), some (.int x1)] [] h
set_option maxRecDepth 20000 in
set_option maxHeartbeats 4000000 in
theorem mm_e178_0 (E : mm_E) (cl : mm_F) (n : Nat) (a0 : Nat) (h : mm_H) :
  mm_r178_0 E cl (n + 1) a0 h =
  mm_pF h a0 9 0 (.int (mm_i 0)) fun h_1 =>
  mm_gI h_1 a0 9 4 fun v_2 =>
  (mm_br (v_2 = (mm_i 0)) (
  some (.inl (some (.int (mm_i (-1)))), h_1)) (
  mm_gI h_1 a0 9 4 fun v_3 =>
    mm_pF h_1 a0 9 4 (.int (v_3 - (mm_i 1))) fun h_4 =>
    mm_r178_26 E cl n a0 (mm_i 0) h_4)) := rfl
set_option maxRecDepth 20000 in
set_option maxHeartbeats 4000000 in
theorem mm_e178_26 (E : mm_E) (cl : mm_F) (n : Nat) (a0 : Nat) (x1 : Int32) (h : mm_H) :
  mm_r178_26 E cl (n + 1) a0 x1 h =
  (mm_br ((mm_i 190) ≤ x1) (
  mm_cI [] (cl 150 [.ref a0] h) fun v_2 h_1 =>
    mm_r178_65 E cl n a0 v_2 h_1) (
  mm_gR h a0 9 1 fun p_3 =>
    mm_gR h a0 9 3 fun p_4 =>
    mm_gI h a0 9 4 fun v_5 =>
    mm_rI E h p_4 (((mm_i 190) * v_5) + x1) fun v_6 =>
    mm_wI h p_3 x1 v_6 fun h_7 =>
    mm_r178_26 E cl n a0 (x1 + (mm_i 1)) h_7)) := rfl
set_option maxRecDepth 20000 in
set_option maxHeartbeats 4000000 in
theorem mm_e178_65 (E : mm_E) (cl : mm_F) (n : Nat) (a0 : Nat) (x1 : Int32) (h : mm_H) :
  mm_r178_65 E cl (n + 1) a0 x1 h =
  (mm_br ((mm_i 12) ≤ x1) (
  mm_gI h a0 9 4 fun v_1 =>
    some (.inl (some (.int v_1)), h)) (
  mm_cV [] (cl 177 [.ref a0, .int x1] h) fun h_2 =>
    mm_r178_65 E cl n a0 (x1 + (mm_i 1)) h_2)) := rfl
-- Mod.waitOf
def mm_r179_0 (E : mm_E) (cl : mm_F) (n : Nat) (a0 : Nat) (x1 : Int32) (h : mm_H) : mm_R := mm_run E cl mm_m179 n 0 [some (.ref a0), some (.int x1), none, none] [] h
def mm_r179_9 (E : mm_E) (cl : mm_F) (n : Nat) (a0 : Nat) (x1 : Int32) (x2 : Int32) (x3 : Int32) (h : mm_H) : mm_R := mm_run E cl mm_m179 n 9 [some (.ref a0), some (.int x1), some (.int x2), some (.int x3)] [] h
set_option maxRecDepth 20000 in
set_option maxHeartbeats 4000000 in
theorem mm_e179_0 (E : mm_E) (cl : mm_F) (n : Nat) (a0 : Nat) (x1 : Int32) (h : mm_H) :
  mm_r179_0 E cl (n + 1) a0 x1 h =
  mm_cI [] (cl 152 [.ref a0, .int x1, .int (mm_i 2)] h) fun v_2 h_1 =>
  mm_r179_9 E cl n a0 x1 v_2 (mm_i 0) h_1 := rfl
set_option maxRecDepth 20000 in
set_option maxHeartbeats 4000000 in
theorem mm_e179_9 (E : mm_E) (cl : mm_F) (n : Nat) (a0 : Nat) (x1 : Int32) (x2 : Int32) (x3 : Int32) (h : mm_H) :
  mm_r179_9 E cl (n + 1) a0 x1 x2 x3 h =
  mm_cI [] (cl 150 [.ref a0] h) fun v_2 h_1 =>
  (mm_br (v_2 ≤ x3) (
  some (.inl (some (.int x2)), h_1)) (
  mm_cI [] (cl 157 [.ref a0, .int x1] h_1) fun v_4 h_3 =>
    mm_cI [] (cl 159 [.int v_4, .int x3] h_3) fun v_6 h_5 =>
    (mm_br (v_6 = (mm_i 0)) (
    mm_r179_9 E cl n a0 x1 x2 (x3 + (mm_i 1)) h_5) (
    mm_gR h_5 a0 9 5 fun p_7 =>
      mm_rI E h_5 p_7 x3 fun v_8 =>
      mm_r179_9 E cl n a0 x1 (mm_mx x2 v_8) (x3 + (mm_i 1)) h_5)))) := rfl
-- Mod.netOf
def mm_r180_0 (E : mm_E) (cl : mm_F) (n : Nat) (a0 : Nat) (x1 : Int32) (h : mm_H) : mm_R := mm_run E cl mm_m180 n 0 [some (.ref a0), some (.int x1)] [] h
set_option maxRecDepth 20000 in
set_option maxHeartbeats 4000000 in
theorem mm_e180_0 (E : mm_E) (cl : mm_F) (n : Nat) (a0 : Nat) (x1 : Int32) (h : mm_H) :
  mm_r180_0 E cl (n + 1) a0 x1 h =
  mm_cI [] (cl 179 [.ref a0, .int x1] h) fun v_2 h_1 =>
  mm_cI [] (cl 152 [.ref a0, .int x1, .int (mm_i 0)] h_1) fun v_4 h_3 =>
  mm_gR h_3 a0 9 5 fun p_5 =>
  mm_rI E h_3 p_5 x1 fun v_6 =>
  some (.inl (some (.int ((v_2 + v_4) - v_6))), h_3) := rfl
-- Mod.isRight
def mm_r181_0 (E : mm_E) (cl : mm_F) (n : Nat) (a0 : Nat) (x1 : Int32) (h : mm_H) : mm_R := mm_run E cl mm_m181 n 0 [some (.ref a0), some (.int x1)] [] h
set_option maxRecDepth 20000 in
set_option maxHeartbeats 4000000 in
theorem mm_e181_0 (E : mm_E) (cl : mm_F) (n : Nat) (a0 : Nat) (x1 : Int32) (h : mm_H) :
  mm_r181_0 E cl (n + 1) a0 x1 h =
  mm_cI [] (cl 180 [.ref a0, .int x1] h) fun v_2 h_1 =>
  (mm_br (v_2 < (mm_i 0)) (
  (mm_bz (mm_i 0) (some (.inl (some (.int (mm_i 0))), h_1)))) (
  mm_cI [] (cl 152 [.ref a0, .int x1, .int (mm_i 5)] h_1) fun v_4 h_3 =>
    (mm_br (v_4 = (mm_i (-1))) (
    mm_cI [] (cl 152 [.ref a0, .int x1, .int (mm_i 6)] h_3) fun v_6 h_5 =>
      (mm_br (v_6 = (mm_i (-1))) (
      (mm_bz (mm_i 1) (some (.inl (some (.int (mm_i 1))), h_5)))) (
      mm_gR h_5 a0 9 5 fun p_7 =>
        mm_rI E h_5 p_7 x1 fun v_8 =>
        mm_cI [] (cl 152 [.ref a0, .int x1, .int (mm_i 6)] h_5) fun v_10 h_9 =>
        (mm_br (v_8 = v_10) (
        (mm_bz (mm_i 1) (some (.inl (some (.int (mm_i 1))), h_9)))) (
        (mm_bz (mm_i 0) (some (.inl (some (.int (mm_i 0))), h_9)))))))) (
    mm_gR h_3 a0 9 5 fun p_11 =>
      mm_rI E h_3 p_11 x1 fun v_12 =>
      mm_cI [] (cl 152 [.ref a0, .int x1, .int (mm_i 5)] h_3) fun v_14 h_13 =>
      (mm_br (v_12 ≤ v_14) (
      mm_cI [] (cl 152 [.ref a0, .int x1, .int (mm_i 6)] h_13) fun v_16 h_15 =>
        (mm_br (v_16 = (mm_i (-1))) (
        (mm_bz (mm_i 1) (some (.inl (some (.int (mm_i 1))), h_15)))) (
        mm_gR h_15 a0 9 5 fun p_17 =>
          mm_rI E h_15 p_17 x1 fun v_18 =>
          mm_cI [] (cl 152 [.ref a0, .int x1, .int (mm_i 6)] h_15) fun v_20 h_19 =>
          (mm_br (v_18 = v_20) (
          (mm_bz (mm_i 1) (some (.inl (some (.int (mm_i 1))), h_19)))) (
          (mm_bz (mm_i 0) (some (.inl (some (.int (mm_i 0))), h_19)))))))) (
      (mm_bz (mm_i 0) (some (.inl (some (.int (mm_i 0))), h_13))))))))) := rfl
-- Mod.firstWrong
def mm_r182_0 (E : mm_E) (cl : mm_F) (n : Nat) (a0 : Nat) (h : mm_H) : mm_R := mm_run E cl mm_m182 n 0 [some (.ref a0), none] [] h
def mm_r182_2 (E : mm_E) (cl : mm_F) (n : Nat) (a0 : Nat) (x1 : Int32) (h : mm_H) : mm_R := mm_run E cl mm_m182 n 2 [some (.ref a0), some (.int x1)] [] h
set_option maxRecDepth 20000 in
set_option maxHeartbeats 4000000 in
theorem mm_e182_0 (E : mm_E) (cl : mm_F) (n : Nat) (a0 : Nat) (h : mm_H) :
  mm_r182_0 E cl (n + 1) a0 h =
  mm_r182_2 E cl n a0 (mm_i 0) h := rfl
set_option maxRecDepth 20000 in
set_option maxHeartbeats 4000000 in
theorem mm_e182_2 (E : mm_E) (cl : mm_F) (n : Nat) (a0 : Nat) (x1 : Int32) (h : mm_H) :
  mm_r182_2 E cl (n + 1) a0 x1 h =
  mm_cI [] (cl 150 [.ref a0] h) fun v_2 h_1 =>
  (mm_br (v_2 ≤ x1) (
  some (.inl (some (.int (mm_i (-1)))), h_1)) (
  mm_cI [] (cl 181 [.ref a0, .int x1] h_1) fun v_4 h_3 =>
    (mm_br (v_4 = (mm_i 0)) (
    some (.inl (some (.int x1)), h_3)) (
    mm_r182_2 E cl n a0 (x1 + (mm_i 1)) h_3)))) := rfl
-- Mod.heldOf
def mm_r183_0 (E : mm_E) (cl : mm_F) (n : Nat) (a0 : Nat) (x1 : Int32) (h : mm_H) : mm_R := mm_run E cl mm_m183 n 0 [some (.ref a0), some (.int x1)] [] h
set_option maxRecDepth 20000 in
set_option maxHeartbeats 4000000 in
theorem mm_e183_0 (E : mm_E) (cl : mm_F) (n : Nat) (a0 : Nat) (x1 : Int32) (h : mm_H) :
  mm_r183_0 E cl (n + 1) a0 x1 h =
  mm_cI [] (cl 180 [.ref a0, .int x1] h) fun v_2 h_1 =>
  (mm_br ((mm_i 0) ≤ v_2) (
  mm_cI [] (cl 180 [.ref a0, .int x1] h_1) fun v_4 h_3 =>
    mm_cI [] (cl 165 [.ref a0, .int x1, .int v_4] h_3) fun v_6 h_5 =>
    some (.inl (some (.int v_6)), h_5)) (
  some (.inl (some (.int (mm_i (-1)))), h_1))) := rfl
-- Mod.priceNow
def mm_r184_0 (E : mm_E) (cl : mm_F) (n : Nat) (a0 : Nat) (h : mm_H) : mm_R := mm_run E cl mm_m184 n 0 [some (.ref a0), none, none] [] h
def mm_r184_4 (E : mm_E) (cl : mm_F) (n : Nat) (a0 : Nat) (x1 : Int32) (x2 : Int32) (h : mm_H) : mm_R := mm_run E cl mm_m184 n 4 [some (.ref a0), some (.int x1), some (.int x2)] [] h
set_option maxRecDepth 20000 in
set_option maxHeartbeats 4000000 in
theorem mm_e184_0 (E : mm_E) (cl : mm_F) (n : Nat) (a0 : Nat) (h : mm_H) :
  mm_r184_0 E cl (n + 1) a0 h =
  mm_r184_4 E cl n a0 (mm_i 0) (mm_i 0) h := rfl
set_option maxRecDepth 20000 in
set_option maxHeartbeats 4000000 in
theorem mm_e184_4 (E : mm_E) (cl : mm_F) (n : Nat) (a0 : Nat) (x1 : Int32) (x2 : Int32) (h : mm_H) :
  mm_r184_4 E cl (n + 1) a0 x1 x2 h =
  mm_cI [] (cl 150 [.ref a0] h) fun v_2 h_1 =>
  (mm_br (v_2 ≤ x2) (
  some (.inl (some (.int x1)), h_1)) (
  mm_cI [] (cl 152 [.ref a0, .int x2, .int (mm_i 1)] h_1) fun v_4 h_3 =>
    mm_cI [] (cl 183 [.ref a0, .int x2] h_3) fun v_6 h_5 =>
    mm_r184_4 E cl n a0 (x1 + (v_4 * v_6)) (x2 + (mm_i 1)) h_5)) := rfl
-- Mod.planned
def mm_r185_0 (E : mm_E) (cl : mm_F) (n : Nat) (a0 : Nat) (x1 : Int32) (x2 : Int32) (h : mm_H) : mm_R := mm_run E cl mm_m185 n 0 [some (.ref a0), some (.int x1), some (.int x2)] [] h
set_option maxRecDepth 20000 in
set_option maxHeartbeats 4000000 in
theorem mm_e185_0 (E : mm_E) (cl : mm_F) (n : Nat) (a0 : Nat) (x1 : Int32) (x2 : Int32) (h : mm_H) :
  mm_r185_0 E cl (n + 1) a0 x1 x2 h =
  mm_pF h a0 9 0 (.int (mm_i 0)) fun h_1 =>
  mm_cI [] (cl 151 [.ref a0, .int x1] h_1) fun v_3 h_2 =>
  (mm_br (v_3 = (mm_i 0)) (
  mm_cI [] (cl 146 [.ref a0, .int (mm_i 1)] h_2) fun v_5 h_4 =>
    some (.inl (some (.int v_5)), h_4)) (
  mm_cI [] (cl 147 [.int x2, .int (mm_i 0), .int (mm_i 5)] h_2) fun v_7 h_6 =>
    (mm_br (v_7 = (mm_i 0)) (
    mm_cI [] (cl 146 [.ref a0, .int (mm_i 1)] h_6) fun v_29 h_28 =>
      some (.inl (some (.int v_29)), h_28)) (
    (mm_br (x2 = (mm_i 0)) (
      mm_gR h_6 a0 9 5 fun p_26 =>
        mm_rI E h_6 p_26 x1 fun v_27 =>
        some (.inl (some (.int v_27)), h_6)) (
      (mm_br (x2 = (mm_i 1)) (
      mm_cI [] (cl 179 [.ref a0, .int x1] h_6) fun v_25 h_24 =>
        some (.inl (some (.int v_25)), h_24)) (
      (mm_br (x2 = (mm_i 2)) (
      mm_cI [] (cl 180 [.ref a0, .int x1] h_6) fun v_23 h_22 =>
        some (.inl (some (.int v_23)), h_22)) (
      (mm_br (x2 = (mm_i 3)) (
      mm_cI [] (cl 183 [.ref a0, .int x1] h_6) fun v_21 h_20 =>
        some (.inl (some (.int v_21)), h_20)) (
      (mm_br (x2 = (mm_i 4)) (
      mm_cI [] (cl 180 [.ref a0, .int x1] h_6) fun v_15 h_14 =>
        (mm_br ((mm_i 0) ≤ v_15) (
        mm_cI [] (cl 180 [.ref a0, .int x1] h_14) fun v_17 h_16 =>
          mm_cI [] (cl 166 [.ref a0, .int x1, .int v_17] h_16) fun v_19 h_18 =>
          some (.inl (some (.int v_19)), h_18)) (
        some (.inl (some (.int (mm_i (-1)))), h_14)))) (
      mm_cI [] (cl 180 [.ref a0, .int x1] h_6) fun v_9 h_8 =>
      (mm_br ((mm_i 0) ≤ v_9) (
      mm_cI [] (cl 152 [.ref a0, .int x1, .int (mm_i 1)] h_8) fun v_11 h_10 =>
        mm_cI [] (cl 183 [.ref a0, .int x1] h_10) fun v_13 h_12 =>
        some (.inl (some (.int (v_11 * v_13))), h_12)) (
      some (.inl (some (.int (mm_i (-1)))), h_8))))))))))))))))) := rfl
-- Mod.plan
def mm_r186_0 (E : mm_E) (cl : mm_F) (n : Nat) (a0 : Nat) (x1 : Int32) (h : mm_H) : mm_R := mm_run E cl mm_m186 n 0 [some (.ref a0), some (.int x1), none, none] [] h
def mm_r186_58 (E : mm_E) (cl : mm_F) (n : Nat) (a0 : Nat) (x1 : Int32) (x2 : Int32) (x3 : Int32) (h : mm_H) : mm_R := mm_run E cl mm_m186 n 58 [some (.ref a0), some (.int x1), some (.int x2), some (.int x3)] [] h
set_option maxRecDepth 20000 in
set_option maxHeartbeats 4000000 in
theorem mm_e186_0 (E : mm_E) (cl : mm_F) (n : Nat) (a0 : Nat) (x1 : Int32) (h : mm_H) :
  mm_r186_0 E cl (n + 1) a0 x1 h =
  mm_pF h a0 9 0 (.int (mm_i 0)) fun h_1 =>
  (mm_br (x1 = (mm_i 0)) (
  mm_cI [] (cl 182 [.ref a0] h_1) fun v_7 h_6 =>
    (mm_br (v_7 = (mm_i (-1))) (
    mm_cI [] (cl 184 [.ref a0] h_6) fun v_9 h_8 =>
      some (.inl (some (.int v_9)), h_8)) (
    some (.inl (some (.int (mm_i (-1)))), h_6)))) (
  (mm_br (x1 = (mm_i 1)) (
  mm_cI [] (cl 182 [.ref a0] h_1) fun v_5 h_4 =>
    some (.inl (some (.int v_5)), h_4)) (
  (mm_br (x1 = (mm_i 2)) (
  mm_r186_58 E cl n a0 x1 (mm_i 0) (mm_i 0) h_1) (
  mm_cI [] (cl 146 [.ref a0, .int (mm_i 1)] h_1) fun v_3 h_2 =>
  some (.inl (some (.int v_3)), h_2))))))) := rfl
set_option maxRecDepth 20000 in
set_option maxHeartbeats 4000000 in
theorem mm_e186_58 (E : mm_E) (cl : mm_F) (n : Nat) (a0 : Nat) (x1 : Int32) (x2 : Int32) (x3 : Int32) (h : mm_H) :
  mm_r186_58 E cl (n + 1) a0 x1 x2 x3 h =
  mm_cI [] (cl 150 [.ref a0] h) fun v_2 h_1 =>
  (mm_br (v_2 ≤ x3) (
  some (.inl (some (.int x2)), h_1)) (
  mm_cI [] (cl 183 [.ref a0, .int x3] h_1) fun v_4 h_3 =>
    (mm_br (v_4 ≤ (mm_i 0)) (
    mm_r186_58 E cl n a0 x1 (x2 ||| (mm_i 0)) (x3 + (mm_i 1)) h_3) (
    mm_r186_58 E cl n a0 x1 (x2 ||| ((mm_i 1) <<< (x3 &&& 31))) (x3 + (mm_i 1)) h_3)))) := rfl
-- Mod.promise
def mm_r187_0 (E : mm_E) (cl : mm_F) (n : Nat) (a0 : Nat) (x1 : Int32) (x2 : Int32) (h : mm_H) : mm_R := mm_run E cl mm_m187 n 0 [some (.ref a0), some (.int x1), some (.int x2), none] [] h
def mm_r187_28 (E : mm_E) (cl : mm_F) (n : Nat) (a0 : Nat) (x1 : Int32) (x2 : Int32) (o3 : Option Value) (b0 : Nat) (s1 : Int32) (h : mm_H) : mm_R := mm_run E cl mm_m187 n 28 [some (.ref a0), some (.int x1), some (.int x2), o3] [.int s1, .ref b0] h
set_option maxRecDepth 20000 in
set_option maxHeartbeats 4000000 in
theorem mm_e187_0 (E : mm_E) (cl : mm_F) (n : Nat) (a0 : Nat) (x1 : Int32) (x2 : Int32) (h : mm_H) :
  mm_r187_0 E cl (n + 1) a0 x1 x2 h =
  mm_cI [] (cl 151 [.ref a0, .int x1] h) fun v_2 h_1 =>
  (mm_br (v_2 = (mm_i 0)) (
  mm_r187_28 E cl n a0 x1 x2 none a0 (mm_i 1) h_1) (
  mm_cI [] (cl 147 [.int x2, .int (mm_i 0), .int (mm_i 119)] h_1) fun v_4 h_3 =>
    (mm_br (v_4 = (mm_i 0)) (
    mm_r187_28 E cl n a0 x1 x2 none a0 (mm_i 2) h_3) (
    mm_r187_28 E cl n a0 x1 x2 none a0 (mm_i 0) h_3)))) := rfl
set_option maxRecDepth 20000 in
set_option maxHeartbeats 4000000 in
theorem mm_e187_28 (E : mm_E) (cl : mm_F) (n : Nat) (a0 : Nat) (x1 : Int32) (x2 : Int32) (o3 : Option Value) (b0 : Nat) (s1 : Int32) (h : mm_H) :
  mm_r187_28 E cl (n + 1) a0 x1 x2 o3 b0 s1 h =
  mm_pF h b0 9 0 (.int s1) fun h_1 =>
  mm_gI h_1 a0 9 0 fun v_2 =>
  (mm_br (v_2 ≤ (mm_i 0)) (
  mm_gR h_1 a0 9 5 fun p_3 =>
    mm_rI E h_1 p_3 x1 fun v_4 =>
    mm_gR h_1 a0 9 5 fun p_5 =>
    mm_wI h_1 p_5 x1 x2 fun h_6 =>
    some (.inl (some (.int v_4)), h_6)) (
  some (.inl (some (.int (mm_i 0))), h_1))) := rfl
-- Mod.lazy
def mm_r188_0 (E : mm_E) (cl : mm_F) (n : Nat) (a0 : Nat) (h : mm_H) : mm_R := mm_run E cl mm_m188 n 0 [some (.ref a0), none, none, none] [] h
def mm_r188_2 (E : mm_E) (cl : mm_F) (n : Nat) (a0 : Nat) (x1 : Int32) (o2 : Option Value) (o3 : Option Value) (h : mm_H) : mm_R := mm_run E cl mm_m188 n 2 [some (.ref a0), some (.int x1), o2, o3] [] h
def mm_r188_15 (E : mm_E) (cl : mm_F) (n : Nat) (a0 : Nat) (x1 : Int32) (x2 : Int32) (o3 : Option Value) (h : mm_H) : mm_R := mm_run E cl mm_m188 n 15 [some (.ref a0), some (.int x1), some (.int x2), o3] [] h
def mm_r188_80 (E : mm_E) (cl : mm_F) (n : Nat) (a0 : Nat) (x1 : Int32) (x2 : Int32) (x3 : Int32) (h : mm_H) : mm_R := mm_run E cl mm_m188 n 80 [some (.ref a0), some (.int x1), some (.int x2), some (.int x3)] [] h
set_option maxRecDepth 20000 in
set_option maxHeartbeats 4000000 in
theorem mm_e188_0 (E : mm_E) (cl : mm_F) (n : Nat) (a0 : Nat) (h : mm_H) :
  mm_r188_0 E cl (n + 1) a0 h =
  mm_r188_2 E cl n a0 (mm_i 0) none none h := rfl
set_option maxRecDepth 20000 in
set_option maxHeartbeats 4000000 in
theorem mm_e188_2 (E : mm_E) (cl : mm_F) (n : Nat) (a0 : Nat) (x1 : Int32) (o2 : Option Value) (o3 : Option Value) (h : mm_H) :
  mm_r188_2 E cl (n + 1) a0 x1 o2 o3 h =
  mm_cI [] (cl 160 [.int x1] h) fun v_2 h_1 =>
  mm_cI [] (cl 150 [.ref a0] h_1) fun v_4 h_3 =>
  (mm_br (v_4 ≤ v_2) (
  some (.inl none, h_3)) (
  mm_r188_15 E cl n a0 x1 (mm_i 0) o3 h_3)) := rfl
set_option maxRecDepth 20000 in
set_option maxHeartbeats 4000000 in
theorem mm_e188_15 (E : mm_E) (cl : mm_F) (n : Nat) (a0 : Nat) (x1 : Int32) (x2 : Int32) (o3 : Option Value) (h : mm_H) :
  mm_r188_15 E cl (n + 1) a0 x1 x2 o3 h =
  mm_cI [] (cl 150 [.ref a0] h) fun v_2 h_1 =>
  (mm_br (v_2 ≤ x2) (
  mm_r188_2 E cl n a0 x1 (some (.int x2)) o3 h_1) (
  mm_cI [] (cl 159 [.int x1, .int x2] h_1) fun v_4 h_3 =>
    (mm_br (v_4 = (mm_i 0)) (
    mm_cI [] (cl 157 [.ref a0, .int x2] h_3) fun v_6 h_5 =>
      (mm_br ((v_6 &&& (x1 ^^^ (mm_i (-1)))) = (mm_i 0)) (
      mm_cI [] (cl 179 [.ref a0, .int x2] h_5) fun v_8 h_7 =>
        mm_cI [] (cl 152 [.ref a0, .int x2, .int (mm_i 0)] h_7) fun v_10 h_9 =>
        mm_cI [] (cl 152 [.ref a0, .int x2, .int (mm_i 5)] h_9) fun v_12 h_11 =>
        (mm_br (v_12 = (mm_i (-1))) (
        mm_r188_80 E cl n a0 x1 x2 (v_8 + v_10) h_11) (
        mm_cI [] (cl 152 [.ref a0, .int x2, .int (mm_i 5)] h_11) fun v_14 h_13 =>
          mm_r188_80 E cl n a0 x1 x2 (mm_mn (v_8 + v_10) v_14) h_13))) (
      mm_r188_15 E cl n a0 x1 (x2 + (mm_i 1)) o3 h_5))) (
    mm_r188_15 E cl n a0 x1 (x2 + (mm_i 1)) o3 h_3)))) := rfl
set_option maxRecDepth 20000 in
set_option maxHeartbeats 4000000 in
theorem mm_e188_80 (E : mm_E) (cl : mm_F) (n : Nat) (a0 : Nat) (x1 : Int32) (x2 : Int32) (x3 : Int32) (h : mm_H) :
  mm_r188_80 E cl (n + 1) a0 x1 x2 x3 h =
  mm_cI [] (cl 152 [.ref a0, .int x2, .int (mm_i 6)] h) fun v_2 h_1 =>
  (mm_br (v_2 = (mm_i (-1))) (
  mm_gR h_1 a0 9 5 fun p_3 =>
    mm_wI h_1 p_3 x2 x3 fun h_4 =>
    mm_r188_15 E cl n a0 (x1 ||| ((mm_i 1) <<< (x2 &&& 31))) (x2 + (mm_i 1)) (some (.int x3)) h_4) (
  mm_cI [] (cl 152 [.ref a0, .int x2, .int (mm_i 6)] h_1) fun v_6 h_5 =>
    mm_gR h_5 a0 9 5 fun p_7 =>
    mm_wI h_5 p_7 x2 (mm_mn x3 v_6) fun h_8 =>
    mm_r188_15 E cl n a0 (x1 ||| ((mm_i 1) <<< (x2 &&& 31))) (x2 + (mm_i 1)) (some (.int (mm_mn x3 v_6))) h_8)) := rfl
-- Mod.halves
def mm_r189_0 (E : mm_E) (cl : mm_F) (n : Nat) (a0 : Nat) (h : mm_H) : mm_R := mm_run E cl mm_m189 n 0 [some (.ref a0), none] [] h
def mm_r189_6 (E : mm_E) (cl : mm_F) (n : Nat) (a0 : Nat) (x1 : Int32) (h : mm_H) : mm_R := mm_run E cl mm_m189 n 6 [some (.ref a0), some (.int x1)] [] h
set_option maxRecDepth 20000 in
set_option maxHeartbeats 4000000 in
theorem mm_e189_0 (E : mm_E) (cl : mm_F) (n : Nat) (a0 : Nat) (h : mm_H) :
  mm_r189_0 E cl (n + 1) a0 h =
  mm_cV [] (cl 188 [.ref a0] h) fun h_1 =>
  mm_r189_6 E cl n a0 (mm_i 0) h_1 := rfl
set_option maxRecDepth 20000 in
set_option maxHeartbeats 4000000 in
theorem mm_e189_6 (E : mm_E) (cl : mm_F) (n : Nat) (a0 : Nat) (x1 : Int32) (h : mm_H) :
  mm_r189_6 E cl (n + 1) a0 x1 h =
  mm_cI [] (cl 150 [.ref a0] h) fun v_2 h_1 =>
  (mm_br (v_2 ≤ x1) (
  some (.inl none, h_1)) (
  mm_gR h_1 a0 9 5 fun p_3 =>
    mm_cI [] (cl 152 [.ref a0, .int x1, .int (mm_i 6)] h_1) fun v_5 h_4 =>
    (mm_br (v_5 = (mm_i (-1))) (
    mm_gR h_4 a0 9 5 fun p_9 =>
      mm_rI E h_4 p_9 x1 fun v_10 =>
      (mm_nz (mm_i 2) (
      mm_wI h_4 p_3 x1 (v_10 / (mm_i 2)) fun h_11 =>
      mm_r189_6 E cl n a0 (x1 + (mm_i 1)) h_11))) (
    mm_cI [] (cl 152 [.ref a0, .int x1, .int (mm_i 6)] h_4) fun v_7 h_6 =>
      mm_wI h_6 p_3 x1 v_7 fun h_8 =>
      mm_r189_6 E cl n a0 (x1 + (mm_i 1)) h_8)))) := rfl
-- Mod.take
def mm_r190_0 (E : mm_E) (cl : mm_F) (n : Nat) (a0 : Nat) (x1 : Int32) (h : mm_H) : mm_R := mm_run E cl mm_m190 n 0 [some (.ref a0), some (.int x1), none] [] h
def mm_r190_35 (E : mm_E) (cl : mm_F) (n : Nat) (a0 : Nat) (x1 : Int32) (x2 : Int32) (h : mm_H) : mm_R := mm_run E cl mm_m190 n 35 [some (.ref a0), some (.int x1), some (.int x2)] [] h
def mm_r190_87 (E : mm_E) (cl : mm_F) (n : Nat) (a0 : Nat) (x1 : Int32) (o2 : Option Value) (h : mm_H) : mm_R := mm_run E cl mm_m190 n 87 [some (.ref a0), some (.int x1), o2] [] h
set_option maxRecDepth 20000 in
set_option maxHeartbeats 4000000 in
theorem mm_e190_0 (E : mm_E) (cl : mm_F) (n : Nat) (a0 : Nat) (x1 : Int32) (h : mm_H) :
  mm_r190_0 E cl (n + 1) a0 x1 h =
  mm_pF h a0 9 0 (.int (mm_i 0)) fun h_1 =>
  mm_cI [] (cl 147 [.int x1, .int (mm_i 0), .int (mm_i 3)] h_1) fun v_3 h_2 =>
  (mm_br (v_3 = (mm_i 0)) (
  some (.inl (some (.int (mm_i (-1)))), h_2)) (
  (mm_br (x1 = (mm_i 2)) (
    mm_cI [] (cl 195 [.ref a0] h_2) fun v_8 h_7 =>
      (mm_br (v_8 = (mm_i (-1))) (
      some (.inl (some (.int (mm_i (-1)))), h_7)) (
      (mm_br (x1 = (mm_i 0)) (
        mm_r190_35 E cl n a0 x1 (mm_i 0) h_7) (
        (mm_br (x1 = (mm_i 1)) (
          mm_cV [] (cl 188 [.ref a0] h_7) fun h_11 =>
            mm_r190_87 E cl n a0 x1 none h_11) (
          (mm_br (x1 = (mm_i 2)) (
            mm_cV [] (cl 203 [.ref a0] h_7) fun h_10 =>
              mm_r190_87 E cl n a0 x1 none h_10) (
            mm_cV [] (cl 189 [.ref a0] h_7) fun h_9 =>
              mm_r190_87 E cl n a0 x1 none h_9))))))))) (
    (mm_br (x1 = (mm_i 0)) (
      mm_r190_35 E cl n a0 x1 (mm_i 0) h_2) (
      (mm_br (x1 = (mm_i 1)) (
        mm_cV [] (cl 188 [.ref a0] h_2) fun h_6 =>
          mm_r190_87 E cl n a0 x1 none h_6) (
        (mm_br (x1 = (mm_i 2)) (
          mm_cV [] (cl 203 [.ref a0] h_2) fun h_5 =>
            mm_r190_87 E cl n a0 x1 none h_5) (
          mm_cV [] (cl 189 [.ref a0] h_2) fun h_4 =>
            mm_r190_87 E cl n a0 x1 none h_4)))))))))) := rfl
set_option maxRecDepth 20000 in
set_option maxHeartbeats 4000000 in
theorem mm_e190_35 (E : mm_E) (cl : mm_F) (n : Nat) (a0 : Nat) (x1 : Int32) (x2 : Int32) (h : mm_H) :
  mm_r190_35 E cl (n + 1) a0 x1 x2 h =
  mm_cI [] (cl 150 [.ref a0] h) fun v_2 h_1 =>
  (mm_br (v_2 ≤ x2) (
  mm_r190_87 E cl n a0 x1 (some (.int x2)) h_1) (
  mm_gR h_1 a0 9 5 fun p_3 =>
    mm_wI h_1 p_3 x2 (mm_i 0) fun h_4 =>
    mm_r190_35 E cl n a0 x1 (x2 + (mm_i 1)) h_4)) := rfl
set_option maxRecDepth 20000 in
set_option maxHeartbeats 4000000 in
theorem mm_e190_87 (E : mm_E) (cl : mm_F) (n : Nat) (a0 : Nat) (x1 : Int32) (o2 : Option Value) (h : mm_H) :
  mm_r190_87 E cl (n + 1) a0 x1 o2 h =
  mm_cI [] (cl 182 [.ref a0] h) fun v_2 h_1 =>
  (mm_br (v_2 = (mm_i (-1))) (
  mm_cI [] (cl 184 [.ref a0] h_1) fun v_4 h_3 =>
    some (.inl (some (.int v_4)), h_3)) (
  some (.inl (some (.int (mm_i (-2)))), h_1))) := rfl
-- Mod.plus
def mm_r191_0 (E : mm_E) (cl : mm_F) (n : Nat) (x0 : Int32) (x1 : Int32) (h : mm_H) : mm_R := mm_run E cl mm_m191 n 0 [some (.int x0), some (.int x1)] [] h
set_option maxRecDepth 20000 in
set_option maxHeartbeats 4000000 in
theorem mm_e191_0 (E : mm_E) (cl : mm_F) (n : Nat) (x0 : Int32) (x1 : Int32) (h : mm_H) :
  mm_r191_0 E cl (n + 1) x0 x1 h =
  (mm_br ((mm_i 1000000000) ≤ x0) (
  some (.inl (some (.int (mm_i 1000000000))), h)) (
  (mm_br (x1 < (mm_i 1000000000)) (
    some (.inl (some (.int (x0 + x1))), h)) (
    some (.inl (some (.int (mm_i 1000000000))), h))))) := rfl
-- Mod.price
def mm_r192_0 (E : mm_E) (cl : mm_F) (n : Nat) (a0 : Nat) (x1 : Int32) (x2 : Int32) (h : mm_H) : mm_R := mm_run E cl mm_m192 n 0 [some (.ref a0), some (.int x1), some (.int x2)] [] h
set_option maxRecDepth 20000 in
set_option maxHeartbeats 4000000 in
theorem mm_e192_0 (E : mm_E) (cl : mm_F) (n : Nat) (a0 : Nat) (x1 : Int32) (x2 : Int32) (h : mm_H) :
  mm_r192_0 E cl (n + 1) a0 x1 x2 h =
  mm_cI [] (cl 152 [.ref a0, .int x1, .int (mm_i 1)] h) fun v_2 h_1 =>
  mm_gR h_1 a0 9 14 fun p_3 =>
  mm_rI E h_1 p_3 (((mm_i 240) * x1) + x2) fun v_4 =>
  some (.inl (some (.int (v_2 * v_4))), h_1) := rfl
-- Mod.layRoots
def mm_r193_0 (E : mm_E) (cl : mm_F) (n : Nat) (a0 : Nat) (h : mm_H) : mm_R := mm_run E cl mm_m193 n 0 [some (.ref a0), none, none, none, none] [] h
def mm_r193_7 (E : mm_E) (cl : mm_F) (n : Nat) (a0 : Nat) (x1 : Int32) (o2 : Option Value) (o3 : Option Value) (o4 : Option Value) (h : mm_H) : mm_R := mm_run E cl mm_m193 n 7 [some (.ref a0), some (.int x1), o2, o3, o4] [] h
def mm_r193_39 (E : mm_E) (cl : mm_F) (n : Nat) (a0 : Nat) (x1 : Int32) (o2 : Option Value) (o3 : Option Value) (o4 : Option Value) (h : mm_H) : mm_R := mm_run E cl mm_m193 n 39 [some (.ref a0), some (.int x1), o2, o3, o4] [] h
def mm_r193_74 (E : mm_E) (cl : mm_F) (n : Nat) (a0 : Nat) (x1 : Int32) (y2 : Int64) (x4 : Int32) (h : mm_H) : mm_R := mm_run E cl mm_m193 n 74 [some (.ref a0), some (.int x1), some (.long y2), none, some (.int x4)] [] h
set_option maxRecDepth 20000 in
set_option maxHeartbeats 4000000 in
theorem mm_e193_0 (E : mm_E) (cl : mm_F) (n : Nat) (a0 : Nat) (h : mm_H) :
  mm_r193_0 E cl (n + 1) a0 h =
  mm_pF h a0 9 15 (.int (mm_i 0)) fun h_1 =>
  mm_r193_7 E cl n a0 (mm_i 0) none none none h_1 := rfl
set_option maxRecDepth 20000 in
set_option maxHeartbeats 4000000 in
theorem mm_e193_7 (E : mm_E) (cl : mm_F) (n : Nat) (a0 : Nat) (x1 : Int32) (o2 : Option Value) (o3 : Option Value) (o4 : Option Value) (h : mm_H) :
  mm_r193_7 E cl (n + 1) a0 x1 o2 o3 o4 h =
  mm_cI [] (cl 150 [.ref a0] h) fun v_2 h_1 =>
  (mm_br (v_2 ≤ x1) (
  mm_r193_39 E cl n a0 (mm_i 0) o2 o3 o4 h_1) (
  mm_gI h_1 a0 9 15 fun v_3 =>
    mm_cI [] (cl 163 [.ref a0, .int x1] h_1) fun v_5 h_4 =>
    mm_pF h_4 a0 9 15 (.int (mm_mx v_3 v_5)) fun h_6 =>
    mm_r193_7 E cl n a0 (x1 + (mm_i 1)) o2 o3 o4 h_6)) := rfl
set_option maxRecDepth 20000 in
set_option maxHeartbeats 4000000 in
theorem mm_e193_39 (E : mm_E) (cl : mm_F) (n : Nat) (a0 : Nat) (x1 : Int32) (o2 : Option Value) (o3 : Option Value) (o4 : Option Value) (h : mm_H) :
  mm_r193_39 E cl (n + 1) a0 x1 o2 o3 o4 h =
  mm_cI [] (cl 150 [.ref a0] h) fun v_2 h_1 =>
  (mm_br (v_2 ≤ x1) (
  some (.inl none, h_1)) (
  mm_gR h_1 a0 9 1 fun p_3 =>
    mm_rI E h_1 p_3 (mm_i 1) fun v_4 =>
    mm_gR h_1 a0 9 1 fun p_5 =>
    mm_rI E h_1 p_5 (mm_i 1) fun v_6 =>
    mm_cI [] (cl 162 [.ref a0, .int x1, .int (mm_i 4)] h_1) fun v_8 h_7 =>
    mm_r193_74 E cl n a0 x1 (((Int32.toInt64 v_4) * (Int32.toInt64 v_6)) * (Int32.toInt64 v_8)) (mm_i 0) h_7)) := rfl
set_option maxRecDepth 20000 in
set_option maxHeartbeats 4000000 in
theorem mm_e193_74 (E : mm_E) (cl : mm_F) (n : Nat) (a0 : Nat) (x1 : Int32) (y2 : Int64) (x4 : Int32) (h : mm_H) :
  mm_r193_74 E cl (n + 1) a0 x1 y2 x4 h =
  mm_gI h a0 9 15 fun v_1 =>
  (mm_br ((v_1 + (mm_i 9)) < x4) (
  mm_r193_39 E cl n a0 (x1 + (mm_i 1)) (some (.long y2)) none (some (.int x4)) h) (
  mm_gR h a0 9 14 fun p_2 =>
    mm_cI [] (cl 164 [.long (y2 * (Int32.toInt64 x4))] h) fun v_4 h_3 =>
    mm_wI h_3 p_2 (((mm_i 240) * x1) + x4) v_4 fun h_5 =>
    mm_r193_74 E cl n a0 x1 y2 (x4 + (mm_i 1)) h_5)) := rfl
-- Mod.mayBe
def mm_r194_0 (E : mm_E) (cl : mm_F) (n : Nat) (a0 : Nat) (x1 : Int32) (x2 : Int32) (h : mm_H) : mm_R := mm_run E cl mm_m194 n 0 [some (.ref a0), some (.int x1), some (.int x2)] [] h
set_option maxRecDepth 20000 in
set_option maxHeartbeats 4000000 in
theorem mm_e194_0 (E : mm_E) (cl : mm_F) (n : Nat) (a0 : Nat) (x1 : Int32) (x2 : Int32) (h : mm_H) :
  mm_r194_0 E cl (n + 1) a0 x1 x2 h =
  mm_cI [] (cl 152 [.ref a0, .int x1, .int (mm_i 5)] h) fun v_2 h_1 =>
  (mm_br (v_2 = (mm_i (-1))) (
  mm_cI [] (cl 152 [.ref a0, .int x1, .int (mm_i 6)] h_1) fun v_4 h_3 =>
    (mm_br (v_4 = (mm_i (-1))) (
    (mm_bz (mm_i 1) (some (.inl (some (.int (mm_i 1))), h_3)))) (
    mm_cI [] (cl 152 [.ref a0, .int x1, .int (mm_i 6)] h_3) fun v_6 h_5 =>
      (mm_br (x2 = v_6) (
      (mm_bz (mm_i 1) (some (.inl (some (.int (mm_i 1))), h_5)))) (
      (mm_bz (mm_i 0) (some (.inl (some (.int (mm_i 0))), h_5)))))))) (
  mm_cI [] (cl 152 [.ref a0, .int x1, .int (mm_i 5)] h_1) fun v_8 h_7 =>
    (mm_br (v_8 < x2) (
    (mm_bz (mm_i 0) (some (.inl (some (.int (mm_i 0))), h_7)))) (
    mm_cI [] (cl 152 [.ref a0, .int x1, .int (mm_i 6)] h_7) fun v_10 h_9 =>
      (mm_br (v_10 = (mm_i (-1))) (
      (mm_bz (mm_i 1) (some (.inl (some (.int (mm_i 1))), h_9)))) (
      mm_cI [] (cl 152 [.ref a0, .int x1, .int (mm_i 6)] h_9) fun v_12 h_11 =>
        (mm_br (x2 = v_12) (
        (mm_bz (mm_i 1) (some (.inl (some (.int (mm_i 1))), h_11)))) (
        (mm_bz (mm_i 0) (some (.inl (some (.int (mm_i 0))), h_11))))))))))) := rfl
-- Mod.priceOfBest
def mm_r195_0 (E : mm_E) (cl : mm_F) (n : Nat) (a0 : Nat) (h : mm_H) : mm_R := mm_run E cl mm_m195 n 0 [some (.ref a0)] [] h
set_option maxRecDepth 20000 in
set_option maxHeartbeats 4000000 in
theorem mm_e195_0 (E : mm_E) (cl : mm_F) (n : Nat) (a0 : Nat) (h : mm_H) :
  mm_r195_0 E cl (n + 1) a0 h =
  mm_cV [] (cl 193 [.ref a0] h) fun h_1 =>
  mm_cI [] (cl 196 [.ref a0] h_1) fun v_3 h_2 =>
  some (.inl (some (.int v_3)), h_2) := rfl
-- Mod.priceByRoots
def mm_r196_0 (E : mm_E) (cl : mm_F) (n : Nat) (a0 : Nat) (h : mm_H) : mm_R := mm_run E cl mm_m196 n 0 [some (.ref a0), none, none, none, none, none] [] h
def mm_r196_6 (E : mm_E) (cl : mm_F) (n : Nat) (a0 : Nat) (x1 : Int32) (x2 : Int32) (x3 : Int32) (o4 : Option Value) (o5 : Option Value) (h : mm_H) : mm_R := mm_run E cl mm_m196 n 6 [some (.ref a0), some (.int x1), some (.int x2), some (.int x3), o4, o5] [] h
def mm_r196_56 (E : mm_E) (cl : mm_F) (n : Nat) (a0 : Nat) (x1 : Int32) (x2 : Int32) (x3 : Int32) (x4 : Int32) (x5 : Int32) (h : mm_H) : mm_R := mm_run E cl mm_m196 n 56 [some (.ref a0), some (.int x1), some (.int x2), some (.int x3), some (.int x4), some (.int x5)] [] h
set_option maxRecDepth 20000 in
set_option maxHeartbeats 4000000 in
theorem mm_e196_0 (E : mm_E) (cl : mm_F) (n : Nat) (a0 : Nat) (h : mm_H) :
  mm_r196_0 E cl (n + 1) a0 h =
  mm_r196_6 E cl n a0 (mm_i 0) (mm_i 0) (mm_i 0) none none h := rfl
set_option maxRecDepth 20000 in
set_option maxHeartbeats 4000000 in
theorem mm_e196_6 (E : mm_E) (cl : mm_F) (n : Nat) (a0 : Nat) (x1 : Int32) (x2 : Int32) (x3 : Int32) (o4 : Option Value) (o5 : Option Value) (h : mm_H) :
  mm_r196_6 E cl (n + 1) a0 x1 x2 x3 o4 o5 h =
  mm_cI [] (cl 150 [.ref a0] h) fun v_2 h_1 =>
  (mm_br (v_2 ≤ x3) (
  (mm_br (x2 < (mm_i 1000000000)) (
    some (.inl (some (.int x2)), h_1)) (
    some (.inl (some (.int (mm_i (-1)))), h_1)))) (
  mm_cI [] (cl 159 [.int x1, .int x3] h_1) fun v_4 h_3 =>
    (mm_br (v_4 = (mm_i 0)) (
    mm_gR h_3 a0 9 1 fun p_5 =>
      mm_cI [] (cl 161 [.ref p_5, .int x3] h_3) fun v_7 h_6 =>
      mm_gR h_6 a0 9 7 fun p_8 =>
      mm_wI h_6 p_8 x3 (mm_i (-1)) fun h_9 =>
      mm_cV [] (cl 197 [.ref a0, .int x3, .int (mm_i 0)] h_9) fun h_10 =>
      mm_r196_56 E cl n a0 (x1 ||| v_7) x2 x3 (mm_i 1000000000) (mm_i 0) h_10) (
    mm_r196_6 E cl n a0 x1 x2 (x3 + (mm_i 1)) o4 o5 h_3)))) := rfl
set_option maxRecDepth 20000 in
set_option maxHeartbeats 4000000 in
theorem mm_e196_56 (E : mm_E) (cl : mm_F) (n : Nat) (a0 : Nat) (x1 : Int32) (x2 : Int32) (x3 : Int32) (x4 : Int32) (x5 : Int32) (h : mm_H) :
  mm_r196_56 E cl (n + 1) a0 x1 x2 x3 x4 x5 h =
  mm_gI h a0 9 15 fun v_1 =>
  (mm_br (v_1 < x5) (
  mm_cI [] (cl 191 [.int x2, .int x4] h) fun v_3 h_2 =>
    mm_r196_6 E cl n a0 x1 v_3 (x3 + (mm_i 1)) (some (.int x4)) (some (.int x5)) h_2) (
  mm_gR h a0 9 8 fun p_4 =>
    mm_rI E h p_4 (((mm_i 120) * x3) + x5) fun v_5 =>
    mm_r196_56 E cl n a0 x1 x2 x3 (mm_mn x4 v_5) (x5 + (mm_i 1)) h)) := rfl
-- Mod.lookFrom
def mm_r197_0 (E : mm_E) (cl : mm_F) (n : Nat) (a0 : Nat) (x1 : Int32) (x2 : Int32) (h : mm_H) : mm_R := mm_run E cl mm_m197 n 0 [some (.ref a0), some (.int x1), some (.int x2), none, none, none, none, none] [] h
def mm_r197_31 (E : mm_E) (cl : mm_F) (n : Nat) (a0 : Nat) (x1 : Int32) (x2 : Int32) (x3 : Int32) (x4 : Int32) (x5 : Int32) (x6 : Int32) (o7 : Option Value) (h : mm_H) : mm_R := mm_run E cl mm_m197 n 31 [some (.ref a0), some (.int x1), some (.int x2), some (.int x3), some (.int x4), some (.int x5), some (.int x6), o7] [] h
def mm_r197_87 (E : mm_E) (cl : mm_F) (n : Nat) (a0 : Nat) (x1 : Int32) (x2 : Int32) (x3 : Int32) (x4 : Int32) (x5 : Int32) (x6 : Int32) (o7 : Option Value) (h : mm_H) : mm_R := mm_run E cl mm_m197 n 87 [some (.ref a0), some (.int x1), some (.int x2), some (.int x3), some (.int x4), some (.int x5), some (.int x6), o7] [] h
def mm_r197_122 (E : mm_E) (cl : mm_F) (n : Nat) (a0 : Nat) (x1 : Int32) (x2 : Int32) (x3 : Int32) (x4 : Int32) (x5 : Int32) (x6 : Int32) (x7 : Int32) (h : mm_H) : mm_R := mm_run E cl mm_m197 n 122 [some (.ref a0), some (.int x1), some (.int x2), some (.int x3), some (.int x4), some (.int x5), some (.int x6), some (.int x7)] [] h
set_option maxRecDepth 20000 in
set_option maxHeartbeats 4000000 in
theorem mm_e197_0 (E : mm_E) (cl : mm_F) (n : Nat) (a0 : Nat) (x1 : Int32) (x2 : Int32) (h : mm_H) :
  mm_r197_0 E cl (n + 1) a0 x1 x2 h =
  mm_cI [] (cl 157 [.ref a0, .int x1] h) fun v_2 h_1 =>
  mm_cI [] (cl 158 [.ref a0, .int x1] h_1) fun v_4 h_3 =>
  mm_r197_31 E cl n a0 x1 x2 (x2 ||| ((mm_i 1) <<< (x1 &&& 31))) (v_2 &&& ((x2 ||| ((mm_i 1) <<< (x1 &&& 31))) ^^^ (mm_i (-1)))) (v_4 &&& ((x2 ||| ((mm_i 1) <<< (x1 &&& 31))) ^^^ (mm_i (-1)))) (mm_i 0) none h_3 := rfl
set_option maxRecDepth 20000 in
set_option maxHeartbeats 4000000 in
theorem mm_e197_31 (E : mm_E) (cl : mm_F) (n : Nat) (a0 : Nat) (x1 : Int32) (x2 : Int32) (x3 : Int32) (x4 : Int32) (x5 : Int32) (x6 : Int32) (o7 : Option Value) (h : mm_H) :
  mm_r197_31 E cl (n + 1) a0 x1 x2 x3 x4 x5 x6 o7 h =
  mm_cI [] (cl 150 [.ref a0] h) fun v_2 h_1 =>
  (mm_br (v_2 ≤ x6) (
  mm_cV [] (cl 198 [.ref a0, .int x1, .int x4] h_1) fun h_3 =>
    mm_r197_87 E cl n a0 x1 x2 x3 x4 x5 (mm_i 0) o7 h_3) (
  mm_cI [] (cl 159 [.int (x4 ||| x5), .int x6] h_1) fun v_5 h_4 =>
    (mm_br (v_5 = (mm_i 0)) (
    mm_r197_31 E cl n a0 x1 x2 x3 x4 x5 (x6 + (mm_i 1)) o7 h_4) (
    mm_gR h_4 a0 9 7 fun p_6 =>
      mm_wI h_4 p_6 x6 x1 fun h_7 =>
      mm_cV [] (cl 197 [.ref a0, .int x6, .int x3] h_7) fun h_8 =>
      mm_r197_31 E cl n a0 x1 x2 x3 x4 x5 (x6 + (mm_i 1)) o7 h_8)))) := rfl
set_option maxRecDepth 20000 in
set_option maxHeartbeats 4000000 in
theorem mm_e197_87 (E : mm_E) (cl : mm_F) (n : Nat) (a0 : Nat) (x1 : Int32) (x2 : Int32) (x3 : Int32) (x4 : Int32) (x5 : Int32) (x6 : Int32) (o7 : Option Value) (h : mm_H) :
  mm_r197_87 E cl (n + 1) a0 x1 x2 x3 x4 x5 x6 o7 h =
  mm_gI h a0 9 15 fun v_1 =>
  (mm_br (v_1 < x6) (
  mm_gR h a0 9 7 fun p_2 =>
    mm_rI E h p_2 x1 fun v_3 =>
    (mm_br (v_3 = (mm_i (-1))) (
    (mm_br ((mm_i 0) = (mm_i 0)) (
      mm_cV [] (cl 200 [.ref a0, .int x1] h) fun h_4 =>
        some (.inl none, h_4)) (
      mm_cV [] (cl 201 [.ref a0, .int x1] h) fun h_5 =>
        some (.inl none, h_5)))) (
    mm_cI [] (cl 157 [.ref a0, .int x1] h) fun v_7 h_6 =>
      mm_gR h_6 a0 9 7 fun p_8 =>
      mm_rI E h_6 p_8 x1 fun v_9 =>
      mm_cI [] (cl 159 [.int v_7, .int v_9] h_6) fun v_11 h_10 =>
      (mm_br (v_11 = (mm_i 0)) (
      (mm_br ((mm_i 0) = (mm_i 0)) (
        mm_cV [] (cl 200 [.ref a0, .int x1] h_10) fun h_12 =>
          some (.inl none, h_12)) (
        mm_cV [] (cl 201 [.ref a0, .int x1] h_10) fun h_13 =>
          some (.inl none, h_13)))) (
      (mm_br ((mm_i 1) = (mm_i 0)) (
        mm_cV [] (cl 200 [.ref a0, .int x1] h_10) fun h_14 =>
          some (.inl none, h_14)) (
        mm_cV [] (cl 201 [.ref a0, .int x1] h_10) fun h_15 =>
          some (.inl none, h_15)))))))) (
  mm_gR h a0 9 12 fun p_16 =>
    mm_cI [] (cl 194 [.ref a0, .int x1, .int x6] h) fun v_18 h_17 =>
    (mm_br (v_18 = (mm_i 0)) (
    mm_wI h_17 p_16 x6 (mm_i 1000000000) fun h_19 =>
      mm_r197_122 E cl n a0 x1 x2 x3 x4 x5 x6 (mm_i 0) h_19) (
    mm_wI h_17 p_16 x6 (mm_i 0) fun h_20 =>
      mm_r197_122 E cl n a0 x1 x2 x3 x4 x5 x6 (mm_i 0) h_20)))) := rfl
set_option maxRecDepth 20000 in
set_option maxHeartbeats 4000000 in
theorem mm_e197_122 (E : mm_E) (cl : mm_F) (n : Nat) (a0 : Nat) (x1 : Int32) (x2 : Int32) (x3 : Int32) (x4 : Int32) (x5 : Int32) (x6 : Int32) (x7 : Int32) (h : mm_H) :
  mm_r197_122 E cl (n + 1) a0 x1 x2 x3 x4 x5 x6 x7 h =
  mm_cI [] (cl 150 [.ref a0] h) fun v_2 h_1 =>
  (mm_br (v_2 ≤ x7) (
  mm_r197_87 E cl n a0 x1 x2 x3 x4 x5 (x6 + (mm_i 1)) (some (.int x7)) h_1) (
  mm_cI [] (cl 159 [.int x5, .int x7] h_1) fun v_4 h_3 =>
    (mm_br (v_4 = (mm_i 0)) (
    mm_r197_122 E cl n a0 x1 x2 x3 x4 x5 x6 (x7 + (mm_i 1)) h_3) (
    mm_gR h_3 a0 9 12 fun p_5 =>
      mm_gR h_3 a0 9 12 fun p_6 =>
      mm_rI E h_3 p_6 x6 fun v_7 =>
      mm_gR h_3 a0 9 8 fun p_8 =>
      mm_rI E h_3 p_8 (((mm_i 120) * x7) + x6) fun v_9 =>
      mm_cI [] (cl 191 [.int v_7, .int v_9] h_3) fun v_11 h_10 =>
      mm_wI h_10 p_5 x6 v_11 fun h_12 =>
      mm_r197_122 E cl n a0 x1 x2 x3 x4 x5 x6 (x7 + (mm_i 1)) h_12)))) := rfl
-- Mod.layWaits
def mm_r198_0 (E : mm_E) (cl : mm_F) (n : Nat) (a0 : Nat) (x1 : Int32) (x2 : Int32) (h : mm_H) : mm_R := mm_run E cl mm_m198 n 0 [some (.ref a0), some (.int x1), some (.int x2), none, none, none] [] h
def mm_r198_2 (E : mm_E) (cl : mm_F) (n : Nat) (a0 : Nat) (x1 : Int32) (x2 : Int32) (x3 : Int32) (o4 : Option Value) (o5 : Option Value) (h : mm_H) : mm_R := mm_run E cl mm_m198 n 2 [some (.ref a0), some (.int x1), some (.int x2), some (.int x3), o4, o5] [] h
def mm_r198_28 (E : mm_E) (cl : mm_F) (n : Nat) (a0 : Nat) (x1 : Int32) (x2 : Int32) (x3 : Int32) (x4 : Int32) (x5 : Int32) (h : mm_H) : mm_R := mm_run E cl mm_m198 n 28 [some (.ref a0), some (.int x1), some (.int x2), some (.int x3), some (.int x4), some (.int x5)] [] h
def mm_r198_84 (E : mm_E) (cl : mm_F) (n : Nat) (a0 : Nat) (x1 : Int32) (x2 : Int32) (x3 : Int32) (o4 : Option Value) (o5 : Option Value) (h : mm_H) : mm_R := mm_run E cl mm_m198 n 84 [some (.ref a0), some (.int x1), some (.int x2), some (.int x3), o4, o5] [] h
def mm_r198_129 (E : mm_E) (cl : mm_F) (n : Nat) (a0 : Nat) (x1 : Int32) (x2 : Int32) (x3 : Int32) (x4 : Int32) (x5 : Int32) (h : mm_H) : mm_R := mm_run E cl mm_m198 n 129 [some (.ref a0), some (.int x1), some (.int x2), some (.int x3), some (.int x4), some (.int x5)] [] h
def mm_r198_215 (E : mm_E) (cl : mm_F) (n : Nat) (a0 : Nat) (x1 : Int32) (x2 : Int32) (x3 : Int32) (x4 : Int32) (x5 : Int32) (h : mm_H) : mm_R := mm_run E cl mm_m198 n 215 [some (.ref a0), some (.int x1), some (.int x2), some (.int x3), some (.int x4), some (.int x5)] [] h
set_option maxRecDepth 20000 in
set_option maxHeartbeats 4000000 in
theorem mm_e198_0 (E : mm_E) (cl : mm_F) (n : Nat) (a0 : Nat) (x1 : Int32) (x2 : Int32) (h : mm_H) :
  mm_r198_0 E cl (n + 1) a0 x1 x2 h =
  mm_r198_2 E cl n a0 x1 x2 (mm_i 0) none none h := rfl
set_option maxRecDepth 20000 in
set_option maxHeartbeats 4000000 in
theorem mm_e198_2 (E : mm_E) (cl : mm_F) (n : Nat) (a0 : Nat) (x1 : Int32) (x2 : Int32) (x3 : Int32) (o4 : Option Value) (o5 : Option Value) (h : mm_H) :
  mm_r198_2 E cl (n + 1) a0 x1 x2 x3 o4 o5 h =
  mm_cI [] (cl 150 [.ref a0] h) fun v_2 h_1 =>
  (mm_br (v_2 ≤ x3) (
  mm_r198_84 E cl n a0 x1 x2 (mm_i 0) o4 o5 h_1) (
  mm_cI [] (cl 159 [.int x2, .int x3] h_1) fun v_4 h_3 =>
    (mm_br (v_4 = (mm_i 0)) (
    mm_r198_2 E cl n a0 x1 x2 (x3 + (mm_i 1)) o4 o5 h_3) (
    mm_r198_28 E cl n a0 x1 x2 x3 (mm_i 1000000000) (mm_i 0) h_3)))) := rfl
set_option maxRecDepth 20000 in
set_option maxHeartbeats 4000000 in
theorem mm_e198_28 (E : mm_E) (cl : mm_F) (n : Nat) (a0 : Nat) (x1 : Int32) (x2 : Int32) (x3 : Int32) (x4 : Int32) (x5 : Int32) (h : mm_H) :
  mm_r198_28 E cl (n + 1) a0 x1 x2 x3 x4 x5 h =
  mm_gI h a0 9 15 fun v_1 =>
  (mm_br (v_1 < x5) (
  mm_r198_2 E cl n a0 x1 x2 (x3 + (mm_i 1)) (some (.int x4)) (some (.int x5)) h) (
  mm_gR h a0 9 8 fun p_2 =>
    mm_rI E h p_2 (((mm_i 120) * x3) + x5) fun v_3 =>
    mm_gR h a0 9 9 fun p_4 =>
    mm_wI h p_4 (((mm_i 120) * x3) + x5) (mm_mn x4 v_3) fun h_5 =>
    mm_r198_28 E cl n a0 x1 x2 x3 (mm_mn x4 v_3) (x5 + (mm_i 1)) h_5)) := rfl
set_option maxRecDepth 20000 in
set_option maxHeartbeats 4000000 in
theorem mm_e198_84 (E : mm_E) (cl : mm_F) (n : Nat) (a0 : Nat) (x1 : Int32) (x2 : Int32) (x3 : Int32) (o4 : Option Value) (o5 : Option Value) (h : mm_H) :
  mm_r198_84 E cl (n + 1) a0 x1 x2 x3 o4 o5 h =
  mm_gI h a0 9 15 fun v_1 =>
  (mm_br (v_1 < x3) (
  some (.inl none, h)) (
  mm_cI [] (cl 152 [.ref a0, .int x1, .int (mm_i 2)] h) fun v_3 h_2 =>
    (mm_br (x3 < v_3) (
    mm_gR h_2 a0 9 11 fun p_4 =>
      (mm_br ((mm_i 0) = (mm_i 0)) (
      mm_wI h_2 p_4 x3 (mm_i 1000000000) fun h_5 =>
        mm_r198_129 E cl n a0 x1 x2 x3 (mm_i 0) (mm_i 0) h_5) (
      mm_wI h_2 p_4 x3 (mm_i 0) fun h_6 =>
        mm_r198_129 E cl n a0 x1 x2 x3 (mm_i 0) (mm_i 0) h_6))) (
    mm_gR h_2 a0 9 11 fun p_7 =>
      (mm_br ((mm_i 1) = (mm_i 0)) (
      mm_wI h_2 p_7 x3 (mm_i 1000000000) fun h_8 =>
        mm_r198_129 E cl n a0 x1 x2 x3 (mm_i 1) (mm_i 0) h_8) (
      mm_wI h_2 p_7 x3 (mm_i 0) fun h_9 =>
        mm_r198_129 E cl n a0 x1 x2 x3 (mm_i 1) (mm_i 0) h_9)))))) := rfl
set_option maxRecDepth 20000 in
set_option maxHeartbeats 4000000 in
theorem mm_e198_129 (E : mm_E) (cl : mm_F) (n : Nat) (a0 : Nat) (x1 : Int32) (x2 : Int32) (x3 : Int32) (x4 : Int32) (x5 : Int32) (h : mm_H) :
  mm_r198_129 E cl (n + 1) a0 x1 x2 x3 x4 x5 h =
  mm_cI [] (cl 150 [.ref a0] h) fun v_2 h_1 =>
  (mm_br (v_2 ≤ x5) (
  mm_gR h_1 a0 9 10 fun p_3 =>
    mm_cI [] (cl 152 [.ref a0, .int x1, .int (mm_i 2)] h_1) fun v_5 h_4 =>
    (mm_br (x3 = v_5) (
    mm_gR h_4 a0 9 11 fun p_7 =>
      mm_rI E h_4 p_7 x3 fun v_8 =>
      mm_wI h_4 p_3 x3 v_8 fun h_9 =>
      mm_r198_215 E cl n a0 x1 x2 x3 x4 (mm_i 0) h_9) (
    mm_wI h_4 p_3 x3 (mm_i 1000000000) fun h_6 =>
      mm_r198_215 E cl n a0 x1 x2 x3 x4 (mm_i 0) h_6))) (
  (mm_br (x4 = (mm_i 0)) (
    mm_gR h_1 a0 9 10 fun p_10 =>
      mm_cI [] (cl 152 [.ref a0, .int x1, .int (mm_i 2)] h_1) fun v_12 h_11 =>
      (mm_br (x3 = v_12) (
      mm_gR h_11 a0 9 11 fun p_14 =>
        mm_rI E h_11 p_14 x3 fun v_15 =>
        mm_wI h_11 p_10 x3 v_15 fun h_16 =>
        mm_r198_215 E cl n a0 x1 x2 x3 x4 (mm_i 0) h_16) (
      mm_wI h_11 p_10 x3 (mm_i 1000000000) fun h_13 =>
        mm_r198_215 E cl n a0 x1 x2 x3 x4 (mm_i 0) h_13))) (
    mm_cI [] (cl 159 [.int x2, .int x5] h_1) fun v_18 h_17 =>
      (mm_br (v_18 = (mm_i 0)) (
      mm_r198_129 E cl n a0 x1 x2 x3 x4 (x5 + (mm_i 1)) h_17) (
      mm_gR h_17 a0 9 11 fun p_19 =>
        mm_gR h_17 a0 9 11 fun p_20 =>
        mm_rI E h_17 p_20 x3 fun v_21 =>
        mm_gR h_17 a0 9 9 fun p_22 =>
        mm_rI E h_17 p_22 (((mm_i 120) * x5) + x3) fun v_23 =>
        mm_cI [] (cl 191 [.int v_21, .int v_23] h_17) fun v_25 h_24 =>
        mm_wI h_24 p_19 x3 v_25 fun h_26 =>
        mm_r198_129 E cl n a0 x1 x2 x3 x4 (x5 + (mm_i 1)) h_26)))))) := rfl
set_option maxRecDepth 20000 in
set_option maxHeartbeats 4000000 in
theorem mm_e198_215 (E : mm_E) (cl : mm_F) (n : Nat) (a0 : Nat) (x1 : Int32) (x2 : Int32) (x3 : Int32) (x4 : Int32) (x5 : Int32) (h : mm_H) :
  mm_r198_215 E cl (n + 1) a0 x1 x2 x3 x4 x5 h =
  mm_cI [] (cl 150 [.ref a0] h) fun v_2 h_1 =>
  (mm_br (v_2 ≤ x5) (
  mm_r198_84 E cl n a0 x1 x2 (x3 + (mm_i 1)) (some (.int x4)) (some (.int x5)) h_1) (
  (mm_br (x4 = (mm_i 0)) (
    mm_r198_84 E cl n a0 x1 x2 (x3 + (mm_i 1)) (some (.int x4)) (some (.int x5)) h_1) (
    mm_cI [] (cl 159 [.int x2, .int x5] h_1) fun v_4 h_3 =>
      (mm_br (v_4 = (mm_i 0)) (
      mm_r198_215 E cl n a0 x1 x2 x3 x4 (x5 + (mm_i 1)) h_3) (
      mm_gR h_3 a0 9 10 fun p_5 =>
        mm_gR h_3 a0 9 10 fun p_6 =>
        mm_rI E h_3 p_6 x3 fun v_7 =>
        mm_cI [] (cl 199 [.ref a0, .int x2, .int x5, .int x3] h_3) fun v_9 h_8 =>
        mm_wI h_8 p_5 x3 (mm_mn v_7 v_9) fun h_10 =>
        mm_r198_215 E cl n a0 x1 x2 x3 x4 (x5 + (mm_i 1)) h_10)))))) := rfl
-- Mod.withOneAt
def mm_r199_0 (E : mm_E) (cl : mm_F) (n : Nat) (a0 : Nat) (x1 : Int32) (x2 : Int32) (x3 : Int32) (h : mm_H) : mm_R := mm_run E cl mm_m199 n 0 [some (.ref a0), some (.int x1), some (.int x2), some (.int x3), none, none] [] h
def mm_r199_16 (E : mm_E) (cl : mm_F) (n : Nat) (a0 : Nat) (x1 : Int32) (x2 : Int32) (x3 : Int32) (x4 : Int32) (x5 : Int32) (h : mm_H) : mm_R := mm_run E cl mm_m199 n 16 [some (.ref a0), some (.int x1), some (.int x2), some (.int x3), some (.int x4), some (.int x5)] [] h
set_option maxRecDepth 20000 in
set_option maxHeartbeats 4000000 in
theorem mm_e199_0 (E : mm_E) (cl : mm_F) (n : Nat) (a0 : Nat) (x1 : Int32) (x2 : Int32) (x3 : Int32) (h : mm_H) :
  mm_r199_0 E cl (n + 1) a0 x1 x2 x3 h =
  mm_gR h a0 9 8 fun p_1 =>
  mm_rI E h p_1 (((mm_i 120) * x2) + x3) fun v_2 =>
  mm_r199_16 E cl n a0 x1 x2 x3 v_2 (mm_i 0) h := rfl
set_option maxRecDepth 20000 in
set_option maxHeartbeats 4000000 in
theorem mm_e199_16 (E : mm_E) (cl : mm_F) (n : Nat) (a0 : Nat) (x1 : Int32) (x2 : Int32) (x3 : Int32) (x4 : Int32) (x5 : Int32) (h : mm_H) :
  mm_r199_16 E cl (n + 1) a0 x1 x2 x3 x4 x5 h =
  mm_cI [] (cl 150 [.ref a0] h) fun v_2 h_1 =>
  (mm_br (v_2 ≤ x5) (
  some (.inl (some (.int x4)), h_1)) (
  (mm_br (x5 = x2) (
    mm_r199_16 E cl n a0 x1 x2 x3 x4 (x5 + (mm_i 1)) h_1) (
    mm_cI [] (cl 159 [.int x1, .int x5] h_1) fun v_4 h_3 =>
      (mm_br (v_4 = (mm_i 0)) (
      mm_r199_16 E cl n a0 x1 x2 x3 x4 (x5 + (mm_i 1)) h_3) (
      mm_gR h_3 a0 9 9 fun p_5 =>
        mm_rI E h_3 p_5 (((mm_i 120) * x5) + x3) fun v_6 =>
        mm_cI [] (cl 191 [.int x4, .int v_6] h_3) fun v_8 h_7 =>
        mm_r199_16 E cl n a0 x1 x2 x3 v_8 (x5 + (mm_i 1)) h_7)))))) := rfl
-- Mod.byOwnTimes
def mm_r200_0 (E : mm_E) (cl : mm_F) (n : Nat) (a0 : Nat) (x1 : Int32) (h : mm_H) : mm_R := mm_run E cl mm_m200 n 0 [some (.ref a0), some (.int x1), none, none, none, none] [] h
def mm_r200_2 (E : mm_E) (cl : mm_F) (n : Nat) (a0 : Nat) (x1 : Int32) (x2 : Int32) (o3 : Option Value) (o4 : Option Value) (o5 : Option Value) (h : mm_H) : mm_R := mm_run E cl mm_m200 n 2 [some (.ref a0), some (.int x1), some (.int x2), o3, o4, o5] [] h
def mm_r200_16 (E : mm_E) (cl : mm_F) (n : Nat) (a0 : Nat) (x1 : Int32) (x2 : Int32) (x3 : Int32) (x4 : Int32) (o5 : Option Value) (h : mm_H) : mm_R := mm_run E cl mm_m200 n 16 [some (.ref a0), some (.int x1), some (.int x2), some (.int x3), some (.int x4), o5] [] h
set_option maxRecDepth 20000 in
set_option maxHeartbeats 4000000 in
theorem mm_e200_0 (E : mm_E) (cl : mm_F) (n : Nat) (a0 : Nat) (x1 : Int32) (h : mm_H) :
  mm_r200_0 E cl (n + 1) a0 x1 h =
  mm_r200_2 E cl n a0 x1 (mm_i 0) none none none h := rfl
set_option maxRecDepth 20000 in
set_option maxHeartbeats 4000000 in
theorem mm_e200_2 (E : mm_E) (cl : mm_F) (n : Nat) (a0 : Nat) (x1 : Int32) (x2 : Int32) (o3 : Option Value) (o4 : Option Value) (o5 : Option Value) (h : mm_H) :
  mm_r200_2 E cl (n + 1) a0 x1 x2 o3 o4 o5 h =
  mm_gI h a0 9 15 fun v_1 =>
  (mm_br (v_1 < x2) (
  some (.inl none, h)) (
  mm_r200_16 E cl n a0 x1 x2 (mm_i 1000000000) (mm_i 0) o5 h)) := rfl
set_option maxRecDepth 20000 in
set_option maxHeartbeats 4000000 in
theorem mm_e200_16 (E : mm_E) (cl : mm_F) (n : Nat) (a0 : Nat) (x1 : Int32) (x2 : Int32) (x3 : Int32) (x4 : Int32) (o5 : Option Value) (h : mm_H) :
  mm_r200_16 E cl (n + 1) a0 x1 x2 x3 x4 o5 h =
  mm_gI h a0 9 15 fun v_1 =>
  (mm_br (v_1 < x4) (
  mm_gR h a0 9 8 fun p_2 =>
    mm_wI h p_2 (((mm_i 120) * x1) + x2) x3 fun h_3 =>
    mm_r200_2 E cl n a0 x1 (x2 + (mm_i 1)) (some (.int x3)) (some (.int x4)) o5 h_3) (
  mm_gR h a0 9 12 fun p_4 =>
    mm_rI E h p_4 x2 fun v_5 =>
    (mm_br ((mm_i 1000000000) ≤ v_5) (
    mm_gR h a0 9 8 fun p_6 =>
      mm_wI h p_6 (((mm_i 120) * x1) + x2) x3 fun h_7 =>
      mm_r200_2 E cl n a0 x1 (x2 + (mm_i 1)) (some (.int x3)) (some (.int x4)) o5 h_7) (
    mm_cI [] (cl 152 [.ref a0, .int x1, .int (mm_i 0)] h) fun v_9 h_8 =>
      (mm_br (((x4 + v_9) - x2) < (mm_i 0)) (
      mm_r200_16 E cl n a0 x1 x2 x3 (x4 + (mm_i 1)) (some (.int ((x4 + v_9) - x2))) h_8) (
      mm_gR h_8 a0 9 10 fun p_10 =>
        mm_rI E h_8 p_10 x4 fun v_11 =>
        (mm_br (v_11 < (mm_i 1000000000)) (
        mm_gR h_8 a0 9 10 fun p_12 =>
          mm_rI E h_8 p_12 x4 fun v_13 =>
          mm_gR h_8 a0 9 12 fun p_14 =>
          mm_rI E h_8 p_14 x2 fun v_15 =>
          mm_cI [] (cl 191 [.int v_13, .int v_15] h_8) fun v_17 h_16 =>
          mm_cI [] (cl 192 [.ref a0, .int x1, .int ((x4 + v_9) - x2)] h_16) fun v_19 h_18 =>
          mm_cI [] (cl 191 [.int v_17, .int v_19] h_18) fun v_21 h_20 =>
          mm_r200_16 E cl n a0 x1 x2 (mm_mn x3 v_21) (x4 + (mm_i 1)) (some (.int ((x4 + v_9) - x2))) h_20) (
        mm_r200_16 E cl n a0 x1 x2 x3 (x4 + (mm_i 1)) (some (.int ((x4 + v_9) - x2))) h_8)))))))) := rfl
