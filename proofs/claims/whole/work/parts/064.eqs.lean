/-! EQUATIONS of the runs, part 2 (by program: wip/whole/genpure.py) -/
-- Que.readTest
noncomputable def mm_r64_0 (E : mm_E) (cl : mm_F) (n : Nat) (a0 : Nat) (x1 : Int32) (h : mm_H) : mm_R := mm_run E cl mm_m64 n 0 [some (.ref a0), some (.int x1), none, none] [] h
noncomputable def mm_r64_2 (E : mm_E) (cl : mm_F) (n : Nat) (a0 : Nat) (x1 : Int32) (x2 : Int32) (o3 : Option Value) (h : mm_H) : mm_R := mm_run E cl mm_m64 n 2 [some (.ref a0), some (.int x1), some (.int x2), o3] [] h
noncomputable def mm_r64_21 (E : mm_E) (cl : mm_F) (n : Nat) (a0 : Nat) (x1 : Int32) (x2 : Int32) (x3 : Int32) (h : mm_H) : mm_R := mm_run E cl mm_m64 n 21 [some (.ref a0), some (.int x1), some (.int x2), some (.int x3)] [] h
noncomputable def mm_r64_74 (E : mm_E) (cl : mm_F) (n : Nat) (a0 : Nat) (x1 : Int32) (x2 : Int32) (x3 : Int32) (h : mm_H) : mm_R := mm_run E cl mm_m64 n 74 [some (.ref a0), some (.int x1), some (.int x2), some (.int x3)] [] h
set_option maxRecDepth 20000 in
set_option maxHeartbeats 4000000 in
theorem mm_e64_0 (E : mm_E) (cl : mm_F) (n : Nat) (a0 : Nat) (x1 : Int32) (h : mm_H) :
  mm_r64_0 E cl (n + 1) a0 x1 h =
  mm_r64_2 E cl n a0 x1 (mm_i 0) none h := (rfl)
set_option maxRecDepth 20000 in
set_option maxHeartbeats 4000000 in
theorem mm_e64_2 (E : mm_E) (cl : mm_F) (n : Nat) (a0 : Nat) (x1 : Int32) (x2 : Int32) (o3 : Option Value) (h : mm_H) :
  mm_r64_2 E cl (n + 1) a0 x1 x2 o3 h =
  (mm_br ((mm_i 200) ≤ x2) (
  mm_cI [] (cl 70 [.ref a0, .int (mm_i 1)] h) fun v_2 h_1 =>
    (mm_bz v_2 (some (.inl (some (.int v_2)), h_1)))) (
  mm_cI [] (cl 65 [.ref a0, .int x1] h) fun v_4 h_3 =>
    (mm_br (v_4 = (mm_i 0)) (
    (mm_bz (mm_i 0) (some (.inl (some (.int (mm_i 0))), h_3)))) (
    mm_r64_21 E cl n a0 x1 x2 (mm_i 0) h_3)))) := (rfl)
set_option maxRecDepth 20000 in
set_option maxHeartbeats 4000000 in
theorem mm_e64_21 (E : mm_E) (cl : mm_F) (n : Nat) (a0 : Nat) (x1 : Int32) (x2 : Int32) (x3 : Int32) (h : mm_H) :
  mm_r64_21 E cl (n + 1) a0 x1 x2 x3 h =
  (mm_br ((mm_i 200) ≤ x3) (
  (mm_br (x2 ≤ (mm_i 0)) (
    mm_r64_74 E cl n a0 x1 x2 x3 h) (
    mm_cI [] (cl 69 [.ref a0, .int (mm_i 38)] h) fun v_2 h_1 =>
      mm_r64_74 E cl n a0 x1 x2 x3 h_1))) (
  mm_gR h a0 4 0 fun p_3 =>
    mm_cI [] (cl 97 [.ref p_3, .ref (E.2.2.1 21)] h) fun v_5 h_4 =>
    (mm_br (v_5 = (mm_i 0)) (
    (mm_br (x2 ≤ (mm_i 0)) (
      mm_r64_74 E cl n a0 x1 x2 x3 h_4) (
      mm_cI [] (cl 69 [.ref a0, .int (mm_i 38)] h_4) fun v_7 h_6 =>
        mm_r64_74 E cl n a0 x1 x2 x3 h_6))) (
    mm_cI [] (cl 65 [.ref a0, .int x1] h_4) fun v_9 h_8 =>
      (mm_br (v_9 = (mm_i 0)) (
      (mm_bz (mm_i 0) (some (.inl (some (.int (mm_i 0))), h_8)))) (
      mm_cI [] (cl 69 [.ref a0, .int (mm_i 37)] h_8) fun v_11 h_10 =>
        mm_r64_21 E cl n a0 x1 x2 (x3 + (mm_i 1)) h_10)))))) := (rfl)
set_option maxRecDepth 20000 in
set_option maxHeartbeats 4000000 in
theorem mm_e64_74 (E : mm_E) (cl : mm_F) (n : Nat) (a0 : Nat) (x1 : Int32) (x2 : Int32) (x3 : Int32) (h : mm_H) :
  mm_r64_74 E cl (n + 1) a0 x1 x2 x3 h =
  mm_gR h a0 4 0 fun p_1 =>
  mm_cI [] (cl 97 [.ref p_1, .ref (E.2.2.1 22)] h) fun v_3 h_2 =>
  (mm_br (v_3 = (mm_i 0)) (
  (mm_bz (mm_i 1) (some (.inl (some (.int (mm_i 1))), h_2)))) (
  mm_r64_2 E cl n a0 x1 (x2 + (mm_i 1)) (some (.int x3)) h_2)) := (rfl)
-- Que.readFact
noncomputable def mm_r65_0 (E : mm_E) (cl : mm_F) (n : Nat) (a0 : Nat) (x1 : Int32) (h : mm_H) : mm_R := mm_run E cl mm_m65 n 0 [some (.ref a0), some (.int x1), none, none] [] h
noncomputable def mm_r65_17 (E : mm_E) (cl : mm_F) (n : Nat) (a0 : Nat) (x1 : Int32) (o2 : Option Value) (o3 : Option Value) (s0 : Int32) (h : mm_H) : mm_R := mm_run E cl mm_m65 n 17 [some (.ref a0), some (.int x1), o2, o3] [.int s0] h
noncomputable def mm_r65_34 (E : mm_E) (cl : mm_F) (n : Nat) (a0 : Nat) (x1 : Int32) (x2 : Int32) (o3 : Option Value) (h : mm_H) : mm_R := mm_run E cl mm_m65 n 34 [some (.ref a0), some (.int x1), some (.int x2), o3] [] h
noncomputable def mm_r65_112 (E : mm_E) (cl : mm_F) (n : Nat) (a0 : Nat) (x1 : Int32) (x2 : Int32) (o3 : Option Value) (h : mm_H) : mm_R := mm_run E cl mm_m65 n 112 [some (.ref a0), some (.int x1), some (.int x2), o3] [] h
noncomputable def mm_r65_148 (E : mm_E) (cl : mm_F) (n : Nat) (a0 : Nat) (x1 : Int32) (x2 : Int32) (o3 : Option Value) (h : mm_H) : mm_R := mm_run E cl mm_m65 n 148 [some (.ref a0), some (.int x1), some (.int x2), o3] [] h
noncomputable def mm_r65_165 (E : mm_E) (cl : mm_F) (n : Nat) (a0 : Nat) (x1 : Int32) (x2 : Int32) (o3 : Option Value) (h : mm_H) : mm_R := mm_run E cl mm_m65 n 165 [some (.ref a0), some (.int x1), some (.int x2), o3] [] h
noncomputable def mm_r65_183 (E : mm_E) (cl : mm_F) (n : Nat) (a0 : Nat) (x1 : Int32) (x2 : Int32) (o3 : Option Value) (s0 : Int32) (h : mm_H) : mm_R := mm_run E cl mm_m65 n 183 [some (.ref a0), some (.int x1), some (.int x2), o3] [.int s0] h
set_option maxRecDepth 20000 in
set_option maxHeartbeats 4000000 in
theorem mm_e65_0 (E : mm_E) (cl : mm_F) (n : Nat) (a0 : Nat) (x1 : Int32) (h : mm_H) :
  mm_r65_0 E cl (n + 1) a0 x1 h =
  mm_gR h a0 4 0 fun p_1 =>
  mm_cI [] (cl 98 [.ref p_1, .ref (E.2.2.1 19)] h) fun v_3 h_2 =>
  (mm_br (v_3 = (mm_i 0)) (
  mm_r65_17 E cl n a0 x1 none none (mm_i 1) h_2) (
  mm_r65_17 E cl n a0 x1 none none (mm_i 0) h_2)) := (rfl)
set_option maxRecDepth 20000 in
set_option maxHeartbeats 4000000 in
theorem mm_e65_17 (E : mm_E) (cl : mm_F) (n : Nat) (a0 : Nat) (x1 : Int32) (o2 : Option Value) (o3 : Option Value) (s0 : Int32) (h : mm_H) :
  mm_r65_17 E cl (n + 1) a0 x1 o2 o3 s0 h =
  (mm_br (s0 = (mm_i 0)) (
  mm_gR h a0 4 0 fun p_1 =>
    mm_cI [] (cl 96 [.ref p_1, .int (mm_i 123)] h) fun v_3 h_2 =>
    (mm_br (v_3 = (mm_i 0)) (
    mm_cI [] (cl 66 [.ref a0, .int x1] h_2) fun v_5 h_4 =>
      (mm_br (v_5 = (mm_i 0)) (
      (mm_bz (mm_i 0) (some (.inl (some (.int (mm_i 0))), h_4)))) (
      mm_gR h_4 a0 4 0 fun p_6 =>
        mm_cI [] (cl 96 [.ref p_6, .int (mm_i 60)] h_4) fun v_8 h_7 =>
        (mm_br (v_8 = (mm_i 0)) (
        mm_r65_148 E cl n a0 x1 s0 o3 h_7) (
        mm_r65_183 E cl n a0 x1 s0 o3 (mm_i 33) h_7))))) (
    mm_r65_34 E cl n a0 x1 s0 o3 h_2))) (
  mm_r65_34 E cl n a0 x1 s0 o3 h)) := (rfl)
set_option maxRecDepth 20000 in
set_option maxHeartbeats 4000000 in
theorem mm_e65_34 (E : mm_E) (cl : mm_F) (n : Nat) (a0 : Nat) (x1 : Int32) (x2 : Int32) (o3 : Option Value) (h : mm_H) :
  mm_r65_34 E cl (n + 1) a0 x1 x2 o3 h =
  (mm_br (x1 < (mm_i 6)) (
  mm_gR h a0 4 0 fun p_1 =>
    mm_cV [] (cl 95 [.ref p_1] h) fun h_2 =>
    (mm_br (x2 = (mm_i 0)) (
    mm_cI [] (cl 64 [.ref a0, .int (x1 + (mm_i 1))] h_2) fun v_4 h_3 =>
      (mm_br (v_4 = (mm_i 0)) (
      (mm_bz (mm_i 0) (some (.inl (some (.int (mm_i 0))), h_3)))) (
      mm_gR h_3 a0 4 0 fun p_5 =>
        mm_cI [] (cl 96 [.ref p_5, .int (mm_i 125)] h_3) fun v_7 h_6 =>
        (mm_br (v_7 = (mm_i 0)) (
        mm_cI [] (cl 70 [.ref a0, .int (mm_i 1)] h_6) fun v_9 h_8 =>
          (mm_bz v_9 (some (.inl (some (.int v_9)), h_8)))) (
        mm_r65_112 E cl n a0 x1 x2 o3 h_6))))) (
    mm_cI [] (cl 65 [.ref a0, .int (x1 + (mm_i 1))] h_2) fun v_11 h_10 =>
      (mm_br (v_11 = (mm_i 0)) (
      (mm_bz (mm_i 0) (some (.inl (some (.int (mm_i 0))), h_10)))) (
      mm_cI [] (cl 69 [.ref a0, .int (mm_i 36)] h_10) fun v_13 h_12 =>
        (mm_br (v_13 = (mm_i 0)) (
        (mm_bz (mm_i 0) (some (.inl (some (.int (mm_i 0))), h_12)))) (
        (mm_bz (mm_i 1) (some (.inl (some (.int (mm_i 1))), h_12)))))))))) (
  mm_cI [] (cl 70 [.ref a0, .int (mm_i 3)] h) fun v_15 h_14 =>
    (mm_bz v_15 (some (.inl (some (.int v_15)), h_14))))) := (rfl)
set_option maxRecDepth 20000 in
set_option maxHeartbeats 4000000 in
theorem mm_e65_112 (E : mm_E) (cl : mm_F) (n : Nat) (a0 : Nat) (x1 : Int32) (x2 : Int32) (o3 : Option Value) (h : mm_H) :
  mm_r65_112 E cl (n + 1) a0 x1 x2 o3 h =
  mm_gR h a0 4 0 fun p_1 =>
  mm_cV [] (cl 95 [.ref p_1] h) fun h_2 =>
  (mm_bz (mm_i 1) (some (.inl (some (.int (mm_i 1))), h_2))) := (rfl)
set_option maxRecDepth 20000 in
set_option maxHeartbeats 4000000 in
theorem mm_e65_148 (E : mm_E) (cl : mm_F) (n : Nat) (a0 : Nat) (x1 : Int32) (x2 : Int32) (o3 : Option Value) (h : mm_H) :
  mm_r65_148 E cl (n + 1) a0 x1 x2 o3 h =
  mm_gR h a0 4 0 fun p_1 =>
  mm_cI [] (cl 96 [.ref p_1, .int (mm_i 61)] h) fun v_3 h_2 =>
  (mm_br (v_3 = (mm_i 0)) (
  mm_r65_165 E cl n a0 x1 x2 o3 h_2) (
  mm_r65_183 E cl n a0 x1 x2 o3 (mm_i 34) h_2)) := (rfl)
set_option maxRecDepth 20000 in
set_option maxHeartbeats 4000000 in
theorem mm_e65_165 (E : mm_E) (cl : mm_F) (n : Nat) (a0 : Nat) (x1 : Int32) (x2 : Int32) (o3 : Option Value) (h : mm_H) :
  mm_r65_165 E cl (n + 1) a0 x1 x2 o3 h =
  mm_gR h a0 4 0 fun p_1 =>
  mm_cI [] (cl 96 [.ref p_1, .int (mm_i 62)] h) fun v_3 h_2 =>
  (mm_br (v_3 = (mm_i 0)) (
  mm_r65_183 E cl n a0 x1 x2 o3 (mm_i (-1)) h_2) (
  mm_r65_183 E cl n a0 x1 x2 o3 (mm_i 35) h_2)) := (rfl)
set_option maxRecDepth 20000 in
set_option maxHeartbeats 4000000 in
theorem mm_e65_183 (E : mm_E) (cl : mm_F) (n : Nat) (a0 : Nat) (x1 : Int32) (x2 : Int32) (o3 : Option Value) (s0 : Int32) (h : mm_H) :
  mm_r65_183 E cl (n + 1) a0 x1 x2 o3 s0 h =
  (mm_br (s0 = (mm_i (-1))) (
  mm_cI [] (cl 70 [.ref a0, .int (mm_i 1)] h) fun v_8 h_7 =>
    (mm_bz v_8 (some (.inl (some (.int v_8)), h_7)))) (
  mm_gR h a0 4 0 fun p_1 =>
    mm_cV [] (cl 95 [.ref p_1] h) fun h_2 =>
    mm_cI [] (cl 66 [.ref a0, .int x1] h_2) fun v_4 h_3 =>
    (mm_br (v_4 = (mm_i 0)) (
    (mm_bz (mm_i 0) (some (.inl (some (.int (mm_i 0))), h_3)))) (
    mm_cI [] (cl 69 [.ref a0, .int s0] h_3) fun v_6 h_5 =>
      (mm_br (v_6 = (mm_i 0)) (
      (mm_bz (mm_i 0) (some (.inl (some (.int (mm_i 0))), h_5)))) (
      (mm_bz (mm_i 1) (some (.inl (some (.int (mm_i 1))), h_5))))))))) := (rfl)
-- Que.readSum
noncomputable def mm_r66_0 (E : mm_E) (cl : mm_F) (n : Nat) (a0 : Nat) (x1 : Int32) (h : mm_H) : mm_R := mm_run E cl mm_m66 n 0 [some (.ref a0), some (.int x1), none, none, none] [] h
noncomputable def mm_r66_4 (E : mm_E) (cl : mm_F) (n : Nat) (a0 : Nat) (x1 : Int32) (x2 : Int32) (x3 : Int32) (o4 : Option Value) (h : mm_H) : mm_R := mm_run E cl mm_m66 n 4 [some (.ref a0), some (.int x1), some (.int x2), some (.int x3), o4] [] h
noncomputable def mm_r66_24 (E : mm_E) (cl : mm_F) (n : Nat) (a0 : Nat) (x1 : Int32) (x2 : Int32) (x3 : Int32) (x4 : Int32) (h : mm_H) : mm_R := mm_run E cl mm_m66 n 24 [some (.ref a0), some (.int x1), some (.int x2), some (.int x3), some (.int x4)] [] h
noncomputable def mm_r66_85 (E : mm_E) (cl : mm_F) (n : Nat) (a0 : Nat) (x1 : Int32) (x2 : Int32) (x3 : Int32) (x4 : Int32) (h : mm_H) : mm_R := mm_run E cl mm_m66 n 85 [some (.ref a0), some (.int x1), some (.int x2), some (.int x3), some (.int x4)] [] h
set_option maxRecDepth 20000 in
set_option maxHeartbeats 4000000 in
theorem mm_e66_0 (E : mm_E) (cl : mm_F) (n : Nat) (a0 : Nat) (x1 : Int32) (h : mm_H) :
  mm_r66_0 E cl (n + 1) a0 x1 h =
  mm_r66_4 E cl n a0 x1 (mm_i (-1)) (mm_i 0) none h := (rfl)
set_option maxRecDepth 20000 in
set_option maxHeartbeats 4000000 in
theorem mm_e66_4 (E : mm_E) (cl : mm_F) (n : Nat) (a0 : Nat) (x1 : Int32) (x2 : Int32) (x3 : Int32) (o4 : Option Value) (h : mm_H) :
  mm_r66_4 E cl (n + 1) a0 x1 x2 x3 o4 h =
  (mm_br ((mm_i 200) ≤ x3) (
  mm_cI [] (cl 70 [.ref a0, .int (mm_i 1)] h) fun v_2 h_1 =>
    (mm_bz v_2 (some (.inl (some (.int v_2)), h_1)))) (
  mm_cI [] (cl 67 [.ref a0, .int x1] h) fun v_4 h_3 =>
    (mm_br (v_4 = (mm_i 0)) (
    (mm_bz (mm_i 0) (some (.inl (some (.int (mm_i 0))), h_3)))) (
    mm_r66_24 E cl n a0 x1 x2 x3 (mm_i 0) h_3)))) := (rfl)
set_option maxRecDepth 20000 in
set_option maxHeartbeats 4000000 in
theorem mm_e66_24 (E : mm_E) (cl : mm_F) (n : Nat) (a0 : Nat) (x1 : Int32) (x2 : Int32) (x3 : Int32) (x4 : Int32) (h : mm_H) :
  mm_r66_24 E cl (n + 1) a0 x1 x2 x3 x4 h =
  (mm_br ((mm_i 200) ≤ x4) (
  (mm_br (x2 = (mm_i (-1))) (
    mm_r66_85 E cl n a0 x1 x2 x3 x4 h) (
    mm_cI [] (cl 69 [.ref a0, .int x2] h) fun v_2 h_1 =>
      mm_r66_85 E cl n a0 x1 x2 x3 x4 h_1))) (
  mm_gR h a0 4 0 fun p_3 =>
    mm_cI [] (cl 96 [.ref p_3, .int (mm_i 42)] h) fun v_5 h_4 =>
    (mm_br (v_5 = (mm_i 0)) (
    (mm_br (x2 = (mm_i (-1))) (
      mm_r66_85 E cl n a0 x1 x2 x3 x4 h_4) (
      mm_cI [] (cl 69 [.ref a0, .int x2] h_4) fun v_7 h_6 =>
        mm_r66_85 E cl n a0 x1 x2 x3 x4 h_6))) (
    mm_gR h_4 a0 4 0 fun p_8 =>
      mm_cV [] (cl 95 [.ref p_8] h_4) fun h_9 =>
      mm_cI [] (cl 67 [.ref a0, .int x1] h_9) fun v_11 h_10 =>
      (mm_br (v_11 = (mm_i 0)) (
      (mm_bz (mm_i 0) (some (.inl (some (.int (mm_i 0))), h_10)))) (
      mm_cI [] (cl 69 [.ref a0, .int (mm_i 30)] h_10) fun v_13 h_12 =>
        mm_r66_24 E cl n a0 x1 x2 x3 (x4 + (mm_i 1)) h_12)))))) := (rfl)
set_option maxRecDepth 20000 in
set_option maxHeartbeats 4000000 in
theorem mm_e66_85 (E : mm_E) (cl : mm_F) (n : Nat) (a0 : Nat) (x1 : Int32) (x2 : Int32) (x3 : Int32) (x4 : Int32) (h : mm_H) :
  mm_r66_85 E cl (n + 1) a0 x1 x2 x3 x4 h =
  mm_gR h a0 4 0 fun p_1 =>
  mm_cI [] (cl 96 [.ref p_1, .int (mm_i 43)] h) fun v_3 h_2 =>
  (mm_br (v_3 = (mm_i 0)) (
  mm_gR h_2 a0 4 0 fun p_4 =>
    mm_cI [] (cl 96 [.ref p_4, .int (mm_i 45)] h_2) fun v_6 h_5 =>
    (mm_br (v_6 = (mm_i 0)) (
    (mm_br ((mm_i (-1)) = (mm_i (-1))) (
      (mm_bz (mm_i 1) (some (.inl (some (.int (mm_i 1))), h_5)))) (
      mm_gR h_5 a0 4 0 fun p_7 =>
        mm_cV [] (cl 95 [.ref p_7] h_5) fun h_8 =>
        mm_r66_4 E cl n a0 x1 (mm_i (-1)) (x3 + (mm_i 1)) (some (.int x4)) h_8))) (
    (mm_br ((mm_i 32) = (mm_i (-1))) (
      (mm_bz (mm_i 1) (some (.inl (some (.int (mm_i 1))), h_5)))) (
      mm_gR h_5 a0 4 0 fun p_9 =>
        mm_cV [] (cl 95 [.ref p_9] h_5) fun h_10 =>
        mm_r66_4 E cl n a0 x1 (mm_i 32) (x3 + (mm_i 1)) (some (.int x4)) h_10))))) (
  (mm_br ((mm_i 31) = (mm_i (-1))) (
    (mm_bz (mm_i 1) (some (.inl (some (.int (mm_i 1))), h_2)))) (
    mm_gR h_2 a0 4 0 fun p_11 =>
      mm_cV [] (cl 95 [.ref p_11] h_2) fun h_12 =>
      mm_r66_4 E cl n a0 x1 (mm_i 31) (x3 + (mm_i 1)) (some (.int x4)) h_12)))) := (rfl)
-- Que.readPart
noncomputable def mm_r67_0 (E : mm_E) (cl : mm_F) (n : Nat) (a0 : Nat) (x1 : Int32) (h : mm_H) : mm_R := mm_run E cl mm_m67 n 0 [some (.ref a0), some (.int x1)] [] h
noncomputable def mm_r67_55 (E : mm_E) (cl : mm_F) (n : Nat) (a0 : Nat) (x1 : Int32) (h : mm_H) : mm_R := mm_run E cl mm_m67 n 55 [some (.ref a0), some (.int x1)] [] h
noncomputable def mm_r67_70 (E : mm_E) (cl : mm_F) (n : Nat) (a0 : Nat) (x1 : Int32) (h : mm_H) : mm_R := mm_run E cl mm_m67 n 70 [some (.ref a0), some (.int x1)] [] h
set_option maxRecDepth 20000 in
set_option maxHeartbeats 4000000 in
theorem mm_e67_0 (E : mm_E) (cl : mm_F) (n : Nat) (a0 : Nat) (x1 : Int32) (h : mm_H) :
  mm_r67_0 E cl (n + 1) a0 x1 h =
  mm_gR h a0 4 0 fun p_1 =>
  mm_cI [] (cl 96 [.ref p_1, .int (mm_i 40)] h) fun v_3 h_2 =>
  (mm_br (v_3 = (mm_i 0)) (
  mm_cI [] (cl 68 [.ref a0] h_2) fun v_5 h_4 =>
    (mm_br (v_5 = (mm_i 0)) (
    (mm_bz (mm_i 0) (some (.inl (some (.int (mm_i 0))), h_4)))) (
    mm_r67_70 E cl n a0 x1 h_4))) (
  (mm_br (x1 < (mm_i 6)) (
    mm_gR h_2 a0 4 0 fun p_6 =>
      mm_cV [] (cl 95 [.ref p_6] h_2) fun h_7 =>
      mm_cI [] (cl 66 [.ref a0, .int (x1 + (mm_i 1))] h_7) fun v_9 h_8 =>
      (mm_br (v_9 = (mm_i 0)) (
      (mm_bz (mm_i 0) (some (.inl (some (.int (mm_i 0))), h_8)))) (
      mm_gR h_8 a0 4 0 fun p_10 =>
        mm_cI [] (cl 96 [.ref p_10, .int (mm_i 41)] h_8) fun v_12 h_11 =>
        (mm_br (v_12 = (mm_i 0)) (
        mm_r67_55 E cl n a0 x1 h_11) (
        mm_r67_70 E cl n a0 x1 h_11))))) (
    mm_cI [] (cl 70 [.ref a0, .int (mm_i 3)] h_2) fun v_14 h_13 =>
      (mm_bz v_14 (some (.inl (some (.int v_14)), h_13))))))) := (rfl)
set_option maxRecDepth 20000 in
set_option maxHeartbeats 4000000 in
theorem mm_e67_55 (E : mm_E) (cl : mm_F) (n : Nat) (a0 : Nat) (x1 : Int32) (h : mm_H) :
  mm_r67_55 E cl (n + 1) a0 x1 h =
  mm_cI [] (cl 70 [.ref a0, .int (mm_i 1)] h) fun v_2 h_1 =>
  (mm_bz v_2 (some (.inl (some (.int v_2)), h_1))) := (rfl)
set_option maxRecDepth 20000 in
set_option maxHeartbeats 4000000 in
theorem mm_e67_70 (E : mm_E) (cl : mm_F) (n : Nat) (a0 : Nat) (x1 : Int32) (h : mm_H) :
  mm_r67_70 E cl (n + 1) a0 x1 h =
  mm_gR h a0 4 0 fun p_1 =>
  mm_cV [] (cl 95 [.ref p_1] h) fun h_2 =>
  (mm_bz (mm_i 1) (some (.inl (some (.int (mm_i 1))), h_2))) := (rfl)
-- Que.markPart
noncomputable def mm_r68_0 (E : mm_E) (cl : mm_F) (n : Nat) (a0 : Nat) (h : mm_H) : mm_R := mm_run E cl mm_m68 n 0 [some (.ref a0), none] [] h
set_option maxRecDepth 20000 in
set_option maxHeartbeats 4000000 in
theorem mm_e68_0 (E : mm_E) (cl : mm_F) (n : Nat) (a0 : Nat) (h : mm_H) :
  mm_r68_0 E cl (n + 1) a0 h =
  mm_gR h a0 4 0 fun p_1 =>
  mm_gI h p_1 7 5 fun v_2 =>
  (mm_br (v_2 = (mm_i 2)) (
  mm_gR h a0 4 0 fun p_10 =>
    mm_cI [] (cl 99 [.ref p_10] h) fun v_12 h_11 =>
    (mm_br ((mm_i 9999) < v_12) (
    mm_cI [] (cl 70 [.ref a0, .int (mm_i 2)] h_11) fun v_14 h_13 =>
      (mm_bz v_14 (some (.inl (some (.int v_14)), h_13)))) (
    mm_cI [] (cl 69 [.ref a0, .int ((mm_i 100) + v_12)] h_11) fun v_16 h_15 =>
      (mm_bz v_16 (some (.inl (some (.int v_16)), h_15)))))) (
  mm_gR h a0 4 0 fun p_3 =>
    mm_cI [] (cl 98 [.ref p_3, .ref (E.2.2.1 20)] h) fun v_5 h_4 =>
    (mm_br (v_5 = (mm_i (-1))) (
    mm_cI [] (cl 70 [.ref a0, .int (mm_i 1)] h_4) fun v_7 h_6 =>
      (mm_bz v_7 (some (.inl (some (.int v_7)), h_6)))) (
    mm_cI [] (cl 69 [.ref a0, .int v_5] h_4) fun v_9 h_8 =>
      (mm_bz v_9 (some (.inl (some (.int v_9)), h_8))))))) := (rfl)
-- Que.mark
noncomputable def mm_r69_0 (E : mm_E) (cl : mm_F) (n : Nat) (a0 : Nat) (x1 : Int32) (h : mm_H) : mm_R := mm_run E cl mm_m69 n 0 [some (.ref a0), some (.int x1)] [] h
set_option maxRecDepth 20000 in
set_option maxHeartbeats 4000000 in
theorem mm_e69_0 (E : mm_E) (cl : mm_F) (n : Nat) (a0 : Nat) (x1 : Int32) (h : mm_H) :
  mm_r69_0 E cl (n + 1) a0 x1 h =
  mm_gI h a0 4 4 fun v_1 =>
  mm_gR h a0 4 2 fun p_2 =>
  mm_ln E h p_2 fun v_3 =>
  (mm_br (v_3 ≤ v_1) (
  (mm_bz (mm_i 1) (some (.inl (some (.int (mm_i 1))), h)))) (
  mm_gR h a0 4 2 fun p_4 =>
    mm_gI h a0 4 4 fun v_5 =>
    mm_wI h p_4 v_5 x1 fun h_6 =>
    mm_gI h_6 a0 4 4 fun v_7 =>
    mm_pF h_6 a0 4 4 (.int (v_7 + (mm_i 1))) fun h_8 =>
    (mm_bz (mm_i 1) (some (.inl (some (.int (mm_i 1))), h_8))))) := (rfl)
-- Que.refuse
noncomputable def mm_r70_0 (E : mm_E) (cl : mm_F) (n : Nat) (a0 : Nat) (x1 : Int32) (h : mm_H) : mm_R := mm_run E cl mm_m70 n 0 [some (.ref a0), some (.int x1)] [] h
set_option maxRecDepth 20000 in
set_option maxHeartbeats 4000000 in
theorem mm_e70_0 (E : mm_E) (cl : mm_F) (n : Nat) (a0 : Nat) (x1 : Int32) (h : mm_H) :
  mm_r70_0 E cl (n + 1) a0 x1 h =
  mm_pF h a0 4 6 (.int x1) fun h_1 =>
  (mm_bz (mm_i 0) (some (.inl (some (.int (mm_i 0))), h_1))) := (rfl)
-- Que.answer
noncomputable def mm_r71_0 (E : mm_E) (cl : mm_F) (n : Nat) (a0 : Nat) (h : mm_H) : mm_R := mm_run E cl mm_m71 n 0 [some (.ref a0), none, none, none] [] h
noncomputable def mm_r71_16 (E : mm_E) (cl : mm_F) (n : Nat) (a0 : Nat) (x1 : Int32) (x2 : Int32) (o3 : Option Value) (h : mm_H) : mm_R := mm_run E cl mm_m71 n 16 [some (.ref a0), some (.int x1), some (.int x2), o3] [] h
set_option maxRecDepth 20000 in
set_option maxHeartbeats 4000000 in
theorem mm_e71_0 (E : mm_E) (cl : mm_F) (n : Nat) (a0 : Nat) (h : mm_H) :
  mm_r71_0 E cl (n + 1) a0 h =
  mm_gI h a0 4 5 fun v_1 =>
  (mm_br (v_1 = (mm_i 1)) (
  mm_r71_16 E cl n a0 (mm_i (-1)) (mm_i 0) none h) (
  mm_r71_16 E cl n a0 (mm_i 0) (mm_i 0) none h)) := (rfl)
set_option maxRecDepth 20000 in
set_option maxHeartbeats 4000000 in
theorem mm_e71_16 (E : mm_E) (cl : mm_F) (n : Nat) (a0 : Nat) (x1 : Int32) (x2 : Int32) (o3 : Option Value) (h : mm_H) :
  mm_r71_16 E cl (n + 1) a0 x1 x2 o3 h =
  mm_gR h a0 4 1 fun p_1 =>
  mm_gI h p_1 3 10 fun v_2 =>
  (mm_br (v_2 ≤ x2) (
  some (.inl (some (.int x1)), h)) (
  mm_cI [] (cl 72 [.ref a0, .int x2] h) fun v_4 h_3 =>
    mm_gI h_3 a0 4 5 fun v_5 =>
    (mm_br (v_5 = (mm_i 1)) (
    (mm_br (v_4 = (mm_i 0)) (
      mm_r71_16 E cl n a0 x1 (x2 + (mm_i 1)) (some (.int v_4)) h_3) (
      some (.inl (some (.int x2)), h_3)))) (
    (mm_br (v_5 = (mm_i 2)) (
    mm_r71_16 E cl n a0 (x1 + v_4) (x2 + (mm_i 1)) (some (.int v_4)) h_3) (
    (mm_br (v_5 = (mm_i 3)) (
    (mm_br (x2 = (mm_i 0)) (
      mm_r71_16 E cl n a0 v_4 (x2 + (mm_i 1)) (some (.int v_4)) h_3) (
      mm_r71_16 E cl n a0 (mm_mx x1 v_4) (x2 + (mm_i 1)) (some (.int v_4)) h_3))) (
    (mm_br (v_5 = (mm_i 4)) (
    (mm_br (x2 = (mm_i 0)) (
      mm_r71_16 E cl n a0 v_4 (x2 + (mm_i 1)) (some (.int v_4)) h_3) (
      mm_r71_16 E cl n a0 (mm_mn x1 v_4) (x2 + (mm_i 1)) (some (.int v_4)) h_3))) (
    mm_r71_16 E cl n a0 (x1 + v_4) (x2 + (mm_i 1)) (some (.int v_4)) h_3)))))))))) := (rfl)
-- Que.workOut
noncomputable def mm_r72_0 (E : mm_E) (cl : mm_F) (n : Nat) (a0 : Nat) (x1 : Int32) (h : mm_H) : mm_R := mm_run E cl mm_m72 n 0 [some (.ref a0), some (.int x1), none, none, none] [] h
noncomputable def mm_r72_4 (E : mm_E) (cl : mm_F) (n : Nat) (a0 : Nat) (x1 : Int32) (x2 : Int32) (x3 : Int32) (o4 : Option Value) (h : mm_H) : mm_R := mm_run E cl mm_m72 n 4 [some (.ref a0), some (.int x1), some (.int x2), some (.int x3), o4] [] h
noncomputable def mm_r72_31 (E : mm_E) (cl : mm_F) (n : Nat) (a0 : Nat) (x1 : Int32) (x2 : Int32) (x3 : Int32) (x4 : Int32) (h : mm_H) : mm_R := mm_run E cl mm_m72 n 31 [some (.ref a0), some (.int x1), some (.int x2), some (.int x3), some (.int x4)] [] h
noncomputable def mm_r72_52 (E : mm_E) (cl : mm_F) (n : Nat) (a0 : Nat) (x1 : Int32) (x2 : Int32) (x3 : Int32) (x4 : Int32) (h : mm_H) : mm_R := mm_run E cl mm_m72 n 52 [some (.ref a0), some (.int x1), some (.int x2), some (.int x3), some (.int x4)] [] h
noncomputable def mm_r72_104 (E : mm_E) (cl : mm_F) (n : Nat) (a0 : Nat) (x1 : Int32) (x2 : Int32) (x3 : Int32) (x4 : Int32) (h : mm_H) : mm_R := mm_run E cl mm_m72 n 104 [some (.ref a0), some (.int x1), some (.int x2), some (.int x3), some (.int x4)] [] h
set_option maxRecDepth 20000 in
set_option maxHeartbeats 4000000 in
theorem mm_e72_0 (E : mm_E) (cl : mm_F) (n : Nat) (a0 : Nat) (x1 : Int32) (h : mm_H) :
  mm_r72_0 E cl (n + 1) a0 x1 h =
  mm_r72_4 E cl n a0 x1 (mm_i 0) (mm_i 0) none h := (rfl)
set_option maxRecDepth 20000 in
set_option maxHeartbeats 4000000 in
theorem mm_e72_4 (E : mm_E) (cl : mm_F) (n : Nat) (a0 : Nat) (x1 : Int32) (x2 : Int32) (x3 : Int32) (o4 : Option Value) (h : mm_H) :
  mm_r72_4 E cl (n + 1) a0 x1 x2 x3 o4 h =
  mm_gI h a0 4 4 fun v_1 =>
  (mm_br (v_1 ≤ x3) (
  mm_gR h a0 4 3 fun p_2 =>
    mm_rI E h p_2 (mm_i 0) fun v_3 =>
    some (.inl (some (.int v_3)), h)) (
  mm_gR h a0 4 2 fun p_4 =>
    mm_rI E h p_4 x3 fun v_5 =>
    (mm_br (v_5 = (mm_i 36)) (
    (mm_br (x2 ≤ (mm_i 0)) (
      mm_r72_52 E cl n a0 x1 x2 x3 v_5 h) (
      mm_r72_31 E cl n a0 x1 x2 x3 v_5 h))) (
    mm_r72_52 E cl n a0 x1 x2 x3 v_5 h)))) := (rfl)
set_option maxRecDepth 20000 in
set_option maxHeartbeats 4000000 in
theorem mm_e72_31 (E : mm_E) (cl : mm_F) (n : Nat) (a0 : Nat) (x1 : Int32) (x2 : Int32) (x3 : Int32) (x4 : Int32) (h : mm_H) :
  mm_r72_31 E cl (n + 1) a0 x1 x2 x3 x4 h =
  mm_gR h a0 4 3 fun p_1 =>
  mm_gR h a0 4 3 fun p_2 =>
  mm_rI E h p_2 (x2 - (mm_i 1)) fun v_3 =>
  mm_wI h p_1 (x2 - (mm_i 1)) ((mm_i 1) - v_3) fun h_4 =>
  mm_r72_4 E cl n a0 x1 x2 (x3 + (mm_i 1)) (some (.int x4)) h_4 := (rfl)
set_option maxRecDepth 20000 in
set_option maxHeartbeats 4000000 in
theorem mm_e72_52 (E : mm_E) (cl : mm_F) (n : Nat) (a0 : Nat) (x1 : Int32) (x2 : Int32) (x3 : Int32) (x4 : Int32) (h : mm_H) :
  mm_r72_52 E cl (n + 1) a0 x1 x2 x3 x4 h =
  (mm_br (x4 < (mm_i 30)) (
  mm_r72_104 E cl n a0 x1 x2 x3 x4 h) (
  (mm_br ((mm_i 100) ≤ x4) (
    mm_r72_104 E cl n a0 x1 x2 x3 x4 h) (
    (mm_br (x2 ≤ (mm_i 1)) (
      mm_r72_104 E cl n a0 x1 x2 x3 x4 h) (
      mm_gR h a0 4 3 fun p_1 =>
        mm_gR h a0 4 3 fun p_2 =>
        mm_rI E h p_2 ((x2 + (mm_i (-1))) - (mm_i 1)) fun v_3 =>
        mm_gR h a0 4 3 fun p_4 =>
        mm_rI E h p_4 (x2 + (mm_i (-1))) fun v_5 =>
        mm_cI [] (cl 73 [.int x4, .int v_3, .int v_5] h) fun v_7 h_6 =>
        mm_wI h_6 p_1 ((x2 + (mm_i (-1))) - (mm_i 1)) v_7 fun h_8 =>
        mm_r72_4 E cl n a0 x1 (x2 + (mm_i (-1))) (x3 + (mm_i 1)) (some (.int x4)) h_8)))))) := (rfl)
set_option maxRecDepth 20000 in
set_option maxHeartbeats 4000000 in
theorem mm_e72_104 (E : mm_E) (cl : mm_F) (n : Nat) (a0 : Nat) (x1 : Int32) (x2 : Int32) (x3 : Int32) (x4 : Int32) (h : mm_H) :
  mm_r72_104 E cl (n + 1) a0 x1 x2 x3 x4 h =
  mm_gR h a0 4 3 fun p_1 =>
  mm_ln E h p_1 fun v_2 =>
  (mm_br (v_2 ≤ x2) (
  mm_r72_4 E cl n a0 x1 x2 (x3 + (mm_i 1)) (some (.int x4)) h) (
  mm_gR h a0 4 3 fun p_3 =>
    (mm_br (x4 < (mm_i 100)) (
    mm_cI [] (cl 74 [.ref a0, .int x1, .int x4] h) fun v_5 h_4 =>
      mm_wI h_4 p_3 x2 v_5 fun h_6 =>
      mm_r72_4 E cl n a0 x1 (x2 + (mm_i 1)) (x3 + (mm_i 1)) (some (.int x4)) h_6) (
    mm_wI h p_3 x2 (x4 - (mm_i 100)) fun h_7 =>
      mm_r72_4 E cl n a0 x1 (x2 + (mm_i 1)) (x3 + (mm_i 1)) (some (.int x4)) h_7)))) := (rfl)
-- Que.joined
noncomputable def mm_r73_0 (E : mm_E) (cl : mm_F) (n : Nat) (x0 : Int32) (x1 : Int32) (x2 : Int32) (h : mm_H) : mm_R := mm_run E cl mm_m73 n 0 [some (.int x0), some (.int x1), some (.int x2)] [] h
set_option maxRecDepth 20000 in
set_option maxHeartbeats 4000000 in
theorem mm_e73_0 (E : mm_E) (cl : mm_F) (n : Nat) (x0 : Int32) (x1 : Int32) (x2 : Int32) (h : mm_H) :
  mm_r73_0 E cl (n + 1) x0 x1 x2 h =
  (mm_br (x0 = (mm_i 30)) (
  some (.inl (some (.int (x1 * x2))), h)) (
  (mm_br (x0 = (mm_i 31)) (
  some (.inl (some (.int (x1 + x2))), h)) (
  (mm_br (x0 = (mm_i 32)) (
  some (.inl (some (.int (x1 - x2))), h)) (
  (mm_br (x0 = (mm_i 33)) (
  (mm_br (x2 ≤ x1) (
    some (.inl (some (.int (mm_i 0))), h)) (
    some (.inl (some (.int (mm_i 1))), h)))) (
  (mm_br (x0 = (mm_i 34)) (
  (mm_br (x1 = x2) (
    some (.inl (some (.int (mm_i 1))), h)) (
    some (.inl (some (.int (mm_i 0))), h)))) (
  (mm_br (x0 = (mm_i 35)) (
  (mm_br (x1 ≤ x2) (
    some (.inl (some (.int (mm_i 0))), h)) (
    some (.inl (some (.int (mm_i 1))), h)))) (
  (mm_br (x0 = (mm_i 36)) (
  some (.inl (some (.int (x1 ||| x2))), h)) (
  (mm_br (x0 = (mm_i 37)) (
  some (.inl (some (.int (x1 &&& x2))), h)) (
  some (.inl (some (.int (x1 ||| x2))), h))))))))))))))))) := (rfl)
-- Que.valueOf
noncomputable def mm_r74_0 (E : mm_E) (cl : mm_F) (n : Nat) (a0 : Nat) (x1 : Int32) (x2 : Int32) (h : mm_H) : mm_R := mm_run E cl mm_m74 n 0 [some (.ref a0), some (.int x1), some (.int x2)] [] h
set_option maxRecDepth 20000 in
set_option maxHeartbeats 4000000 in
theorem mm_e74_0 (E : mm_E) (cl : mm_F) (n : Nat) (a0 : Nat) (x1 : Int32) (x2 : Int32) (h : mm_H) :
  mm_r74_0 E cl (n + 1) a0 x1 x2 h =
  (mm_br (x2 = (mm_i 0)) (
  some (.inl (some (.int x1)), h)) (
  (mm_br (x2 = (mm_i 1)) (
  (mm_br ((mm_i 8) ≤ x2) (
    mm_gR h a0 4 1 fun p_62 =>
      mm_cI [] (cl 52 [.ref p_62, .int x1, .int (x2 - (mm_i 13))] h) fun v_64 h_63 =>
      some (.inl (some (.int v_64)), h_63)) (
    mm_gR h a0 4 1 fun p_65 =>
      mm_cI [] (cl 30 [.ref p_65, .int x1, .int (x2 - (mm_i 1))] h) fun v_67 h_66 =>
      some (.inl (some (.int v_67)), h_66)))) (
  (mm_br (x2 = (mm_i 2)) (
  (mm_br ((mm_i 8) ≤ x2) (
    mm_gR h a0 4 1 fun p_56 =>
      mm_cI [] (cl 52 [.ref p_56, .int x1, .int (x2 - (mm_i 13))] h) fun v_58 h_57 =>
      some (.inl (some (.int v_58)), h_57)) (
    mm_gR h a0 4 1 fun p_59 =>
      mm_cI [] (cl 30 [.ref p_59, .int x1, .int (x2 - (mm_i 1))] h) fun v_61 h_60 =>
      some (.inl (some (.int v_61)), h_60)))) (
  (mm_br (x2 = (mm_i 3)) (
  (mm_br ((mm_i 8) ≤ x2) (
    mm_gR h a0 4 1 fun p_50 =>
      mm_cI [] (cl 52 [.ref p_50, .int x1, .int (x2 - (mm_i 13))] h) fun v_52 h_51 =>
      some (.inl (some (.int v_52)), h_51)) (
    mm_gR h a0 4 1 fun p_53 =>
      mm_cI [] (cl 30 [.ref p_53, .int x1, .int (x2 - (mm_i 1))] h) fun v_55 h_54 =>
      some (.inl (some (.int v_55)), h_54)))) (
  (mm_br (x2 = (mm_i 4)) (
  (mm_br ((mm_i 8) ≤ x2) (
    mm_gR h a0 4 1 fun p_44 =>
      mm_cI [] (cl 52 [.ref p_44, .int x1, .int (x2 - (mm_i 13))] h) fun v_46 h_45 =>
      some (.inl (some (.int v_46)), h_45)) (
    mm_gR h a0 4 1 fun p_47 =>
      mm_cI [] (cl 30 [.ref p_47, .int x1, .int (x2 - (mm_i 1))] h) fun v_49 h_48 =>
      some (.inl (some (.int v_49)), h_48)))) (
  (mm_br (x2 = (mm_i 5)) (
  (mm_br ((mm_i 8) ≤ x2) (
    mm_gR h a0 4 1 fun p_38 =>
      mm_cI [] (cl 52 [.ref p_38, .int x1, .int (x2 - (mm_i 13))] h) fun v_40 h_39 =>
      some (.inl (some (.int v_40)), h_39)) (
    mm_gR h a0 4 1 fun p_41 =>
      mm_cI [] (cl 30 [.ref p_41, .int x1, .int (x2 - (mm_i 1))] h) fun v_43 h_42 =>
      some (.inl (some (.int v_43)), h_42)))) (
  (mm_br (x2 = (mm_i 6)) (
  (mm_br ((mm_i 8) ≤ x2) (
    mm_gR h a0 4 1 fun p_32 =>
      mm_cI [] (cl 52 [.ref p_32, .int x1, .int (x2 - (mm_i 13))] h) fun v_34 h_33 =>
      some (.inl (some (.int v_34)), h_33)) (
    mm_gR h a0 4 1 fun p_35 =>
      mm_cI [] (cl 30 [.ref p_35, .int x1, .int (x2 - (mm_i 1))] h) fun v_37 h_36 =>
      some (.inl (some (.int v_37)), h_36)))) (
  (mm_br (x2 = (mm_i 7)) (
  (mm_br ((mm_i 8) ≤ x2) (
    mm_gR h a0 4 1 fun p_26 =>
      mm_cI [] (cl 52 [.ref p_26, .int x1, .int (x2 - (mm_i 13))] h) fun v_28 h_27 =>
      some (.inl (some (.int v_28)), h_27)) (
    mm_gR h a0 4 1 fun p_29 =>
      mm_cI [] (cl 30 [.ref p_29, .int x1, .int (x2 - (mm_i 1))] h) fun v_31 h_30 =>
      some (.inl (some (.int v_31)), h_30)))) (
  (mm_br (x2 = (mm_i 8)) (
  mm_gR h a0 4 1 fun p_23 =>
    mm_gR h p_23 3 7 fun p_24 =>
    mm_rI E h p_24 x1 fun v_25 =>
    some (.inl (some (.int v_25)), h)) (
  (mm_br (x2 = (mm_i 9)) (
  mm_gR h a0 4 1 fun p_20 =>
    mm_gR h p_20 3 8 fun p_21 =>
    mm_rI E h p_21 x1 fun v_22 =>
    some (.inl (some (.int v_22)), h)) (
  (mm_br (x2 = (mm_i 10)) (
  mm_gR h a0 4 1 fun p_17 =>
    mm_gR h p_17 3 9 fun p_18 =>
    mm_rI E h p_18 x1 fun v_19 =>
    some (.inl (some (.int v_19)), h)) (
  (mm_br (x2 = (mm_i 11)) (
  mm_gR h a0 4 1 fun p_12 =>
    mm_gR h p_12 3 2 fun p_13 =>
    mm_rI E h p_13 x1 fun v_14 =>
    mm_cI [] (cl 283 [.int v_14] h) fun v_16 h_15 =>
    some (.inl (some (.int v_16)), h_15)) (
  (mm_br (x2 = (mm_i 12)) (
  mm_gR h a0 4 1 fun p_7 =>
    mm_gR h p_7 3 3 fun p_8 =>
    mm_rI E h p_8 x1 fun v_9 =>
    mm_cI [] (cl 283 [.int v_9] h) fun v_11 h_10 =>
    some (.inl (some (.int v_11)), h_10)) (
  (mm_br ((mm_i 8) ≤ x2) (
  mm_gR h a0 4 1 fun p_1 =>
    mm_cI [] (cl 52 [.ref p_1, .int x1, .int (x2 - (mm_i 13))] h) fun v_3 h_2 =>
    some (.inl (some (.int v_3)), h_2)) (
  mm_gR h a0 4 1 fun p_4 =>
    mm_cI [] (cl 30 [.ref p_4, .int x1, .int (x2 - (mm_i 1))] h) fun v_6 h_5 =>
    some (.inl (some (.int v_6)), h_5))))))))))))))))))))))))))))) := (rfl)
-- Row.init
noncomputable def mm_r75_0 (E : mm_E) (cl : mm_F) (n : Nat) (a0 : Nat) (x1 : Int32) (h : mm_H) : mm_R := mm_run E cl mm_m75 n 0 [some (.ref a0), some (.int x1)] [] h
set_option maxRecDepth 20000 in
set_option maxHeartbeats 4000000 in
theorem mm_e75_0 (E : mm_E) (cl : mm_F) (n : Nat) (a0 : Nat) (x1 : Int32) (h : mm_H) :
  mm_r75_0 E cl (n + 1) a0 x1 h =
  mm_nn x1 fun k_3 => mm_al h (.inr (.inr (.inl (k_3, fun _ => 0)))) k_3 fun p_1 h_2 =>
  mm_pF h_2 a0 5 0 (.ref p_1) fun h_4 =>
  mm_nn x1 fun k_7 => mm_al h_4 (.inr (.inr (.inl (k_7, fun _ => 0)))) k_7 fun p_5 h_6 =>
  mm_pF h_6 a0 5 1 (.ref p_5) fun h_8 =>
  some (.inl none, h_8) := (rfl)
-- Row.put
noncomputable def mm_r76_0 (E : mm_E) (cl : mm_F) (n : Nat) (a0 : Nat) (x1 : Int32) (y2 : Int64) (y4 : Int64) (h : mm_H) : mm_R := mm_run E cl mm_m76 n 0 [some (.ref a0), some (.int x1), some (.long y2), none, some (.long y4), none, none] [] h
noncomputable def mm_r76_32 (E : mm_E) (cl : mm_F) (n : Nat) (a0 : Nat) (x1 : Int32) (y2 : Int64) (y4 : Int64) (x6 : Int32) (b0 : Nat) (s1 : Int32) (t2 : Int64) (h : mm_H) : mm_R := mm_run E cl mm_m76 n 32 [some (.ref a0), some (.int x1), some (.long y2), none, some (.long y4), none, some (.int x6)] [.long t2, .int s1, .ref b0] h
set_option maxRecDepth 20000 in
set_option maxHeartbeats 4000000 in
theorem mm_e76_0 (E : mm_E) (cl : mm_F) (n : Nat) (a0 : Nat) (x1 : Int32) (y2 : Int64) (y4 : Int64) (h : mm_H) :
  mm_r76_0 E cl (n + 1) a0 x1 y2 y4 h =
  (mm_br ((mm_i 0) ≤ (lg_cmp y2 (mm_j 288230376151711744))) (
  mm_gR h a0 5 0 fun p_1 =>
    (mm_br ((mm_i 0) = (mm_i 0)) (
    mm_r76_32 E cl n a0 x1 y2 y4 (mm_i 0) p_1 x1 (mm_j 288230376151711744) h) (
    mm_r76_32 E cl n a0 x1 y2 y4 (mm_i 0) p_1 x1 y2 h))) (
  mm_gR h a0 5 0 fun p_2 =>
    (mm_br ((mm_i 1) = (mm_i 0)) (
    mm_r76_32 E cl n a0 x1 y2 y4 (mm_i 1) p_2 x1 (mm_j 288230376151711744) h) (
    mm_r76_32 E cl n a0 x1 y2 y4 (mm_i 1) p_2 x1 y2 h)))) := (rfl)
set_option maxRecDepth 20000 in
set_option maxHeartbeats 4000000 in
theorem mm_e76_32 (E : mm_E) (cl : mm_F) (n : Nat) (a0 : Nat) (x1 : Int32) (y2 : Int64) (y4 : Int64) (x6 : Int32) (b0 : Nat) (s1 : Int32) (t2 : Int64) (h : mm_H) :
  mm_r76_32 E cl (n + 1) a0 x1 y2 y4 x6 b0 s1 t2 h =
  mm_wJ h b0 s1 t2 fun h_1 =>
  mm_gR h_1 a0 5 1 fun p_2 =>
  (mm_br (x6 = (mm_i 0)) (
  mm_wJ h_1 p_2 x1 (mm_j 0) fun h_3 =>
    some (.inl none, h_3)) (
  mm_wJ h_1 p_2 x1 y4 fun h_4 =>
    some (.inl none, h_4))) := (rfl)
-- Row.lower
noncomputable def mm_r77_0 (E : mm_E) (cl : mm_F) (n : Nat) (a0 : Nat) (x1 : Int32) (y2 : Int64) (y4 : Int64) (h : mm_H) : mm_R := mm_run E cl mm_m77 n 0 [some (.ref a0), some (.int x1), some (.long y2), none, some (.long y4), none] [] h
noncomputable def mm_r77_34 (E : mm_E) (cl : mm_F) (n : Nat) (a0 : Nat) (x1 : Int32) (y2 : Int64) (y4 : Int64) (h : mm_H) : mm_R := mm_run E cl mm_m77 n 34 [some (.ref a0), some (.int x1), some (.long y2), none, some (.long y4), none] [] h
set_option maxRecDepth 20000 in
set_option maxHeartbeats 4000000 in
theorem mm_e77_0 (E : mm_E) (cl : mm_F) (n : Nat) (a0 : Nat) (x1 : Int32) (y2 : Int64) (y4 : Int64) (h : mm_H) :
  mm_r77_0 E cl (n + 1) a0 x1 y2 y4 h =
  mm_gR h a0 5 0 fun p_1 =>
  mm_rJ h p_1 x1 fun w_2 =>
  (mm_br ((lg_cmp y2 w_2) < (mm_i 0)) (
  mm_r77_34 E cl n a0 x1 y2 y4 h) (
  mm_gR h a0 5 0 fun p_3 =>
    mm_rJ h p_3 x1 fun w_4 =>
    (mm_br ((lg_cmp y2 w_4) = (mm_i 0)) (
    mm_gR h a0 5 1 fun p_5 =>
      mm_rJ h p_5 x1 fun w_6 =>
      (mm_br ((mm_i 0) ≤ (lg_cmp y4 w_6)) (
      some (.inl none, h)) (
      mm_r77_34 E cl n a0 x1 y2 y4 h))) (
    some (.inl none, h))))) := (rfl)
set_option maxRecDepth 20000 in
set_option maxHeartbeats 4000000 in
theorem mm_e77_34 (E : mm_E) (cl : mm_F) (n : Nat) (a0 : Nat) (x1 : Int32) (y2 : Int64) (y4 : Int64) (h : mm_H) :
  mm_r77_34 E cl (n + 1) a0 x1 y2 y4 h =
  mm_gR h a0 5 0 fun p_1 =>
  mm_wJ h p_1 x1 y2 fun h_2 =>
  mm_gR h_2 a0 5 1 fun p_3 =>
  mm_wJ h_2 p_3 x1 y4 fun h_4 =>
  some (.inl none, h_4) := (rfl)
-- Tel.init
noncomputable def mm_r78_0 (E : mm_E) (cl : mm_F) (n : Nat) (a0 : Nat) (a1 : Nat) (a2 : Nat) (h : mm_H) : mm_R := mm_run E cl mm_m78 n 0 [some (.ref a0), some (.ref a1), some (.ref a2)] [] h
set_option maxRecDepth 20000 in
set_option maxHeartbeats 4000000 in
theorem mm_e78_0 (E : mm_E) (cl : mm_F) (n : Nat) (a0 : Nat) (a1 : Nat) (a2 : Nat) (h : mm_H) :
  mm_r78_0 E cl (n + 1) a0 a1 a2 h =
  mm_pF h a0 6 2 (.int (mm_i 0)) fun h_1 =>
  mm_pF h_1 a0 6 0 (.ref a1) fun h_2 =>
  mm_pF h_2 a0 6 1 (.ref a2) fun h_3 =>
  some (.inl none, h_3) := (rfl)
-- Tel.read
noncomputable def mm_r79_0 (E : mm_E) (cl : mm_F) (n : Nat) (a0 : Nat) (x1 : Int32) (h : mm_H) : mm_R := mm_run E cl mm_m79 n 0 [some (.ref a0), some (.int x1), none] [] h
noncomputable def mm_r79_22 (E : mm_E) (cl : mm_F) (n : Nat) (a0 : Nat) (x1 : Int32) (x2 : Int32) (h : mm_H) : mm_R := mm_run E cl mm_m79 n 22 [some (.ref a0), some (.int x1), some (.int x2)] [] h
set_option maxRecDepth 20000 in
set_option maxHeartbeats 4000000 in
theorem mm_e79_0 (E : mm_E) (cl : mm_F) (n : Nat) (a0 : Nat) (x1 : Int32) (h : mm_H) :
  mm_r79_0 E cl (n + 1) a0 x1 h =
  mm_pF h a0 6 2 (.int (mm_i 0)) fun h_1 =>
  mm_gR h_1 a0 6 1 fun p_2 =>
  mm_cV [] (cl 33 [.ref p_2] h_1) fun h_3 =>
  mm_gR h_3 a0 6 0 fun p_4 =>
  mm_cV [] (cl 94 [.ref p_4, .int x1] h_3) fun h_5 =>
  mm_r79_22 E cl n a0 x1 (mm_i 0) h_5 := (rfl)
set_option maxRecDepth 20000 in
set_option maxHeartbeats 4000000 in
theorem mm_e79_22 (E : mm_E) (cl : mm_F) (n : Nat) (a0 : Nat) (x1 : Int32) (x2 : Int32) (h : mm_H) :
  mm_r79_22 E cl (n + 1) a0 x1 x2 h =
  (mm_br ((mm_i 400) ≤ x2) (
  mm_gR h a0 6 1 fun p_1 =>
    mm_cV [] (cl 43 [.ref p_1] h) fun h_2 =>
    mm_gI h_2 a0 6 2 fun v_3 =>
    some (.inl (some (.int v_3)), h_2)) (
  mm_gI h a0 6 2 fun v_4 =>
    (mm_br (v_4 = (mm_i 0)) (
    mm_gR h a0 6 0 fun p_8 =>
      mm_gI h p_8 7 5 fun v_9 =>
      (mm_br (v_9 = (mm_i 0)) (
      mm_gR h a0 6 1 fun p_10 =>
        mm_cV [] (cl 43 [.ref p_10] h) fun h_11 =>
        mm_gI h_11 a0 6 2 fun v_12 =>
        some (.inl (some (.int v_12)), h_11)) (
      mm_cI [] (cl 80 [.ref a0] h) fun v_14 h_13 =>
        (mm_br (v_14 = (mm_i 0)) (
        mm_r79_22 E cl n a0 x1 (x2 + (mm_i 1)) h_13) (
        mm_cI [] (cl 81 [.ref a0] h_13) fun v_16 h_15 =>
          (mm_br (v_16 = (mm_i 0)) (
          mm_r79_22 E cl n a0 x1 (x2 + (mm_i 1)) h_15) (
          mm_gR h_15 a0 6 0 fun p_17 =>
            mm_cV [] (cl 95 [.ref p_17] h_15) fun h_18 =>
            mm_r79_22 E cl n a0 x1 (x2 + (mm_i 1)) h_18))))))) (
    mm_gR h a0 6 1 fun p_5 =>
      mm_cV [] (cl 43 [.ref p_5] h) fun h_6 =>
      mm_gI h_6 a0 6 2 fun v_7 =>
      some (.inl (some (.int v_7)), h_6))))) := (rfl)
-- Tel.readLine
noncomputable def mm_r80_0 (E : mm_E) (cl : mm_F) (n : Nat) (a0 : Nat) (h : mm_H) : mm_R := mm_run E cl mm_m80 n 0 [some (.ref a0)] [] h
set_option maxRecDepth 20000 in
set_option maxHeartbeats 4000000 in
theorem mm_e80_0 (E : mm_E) (cl : mm_F) (n : Nat) (a0 : Nat) (h : mm_H) :
  mm_r80_0 E cl (n + 1) a0 h =
  mm_gR h a0 6 0 fun p_1 =>
  mm_cI [] (cl 98 [.ref p_1, .ref (E.2.2.1 1)] h) fun v_3 h_2 =>
  (mm_br (v_3 = (mm_i 0)) (
  mm_cI [] (cl 82 [.ref a0] h_2) fun v_11 h_10 =>
    (mm_bz v_11 (some (.inl (some (.int v_11)), h_10)))) (
  (mm_br (v_3 = (mm_i 1)) (
  mm_cI [] (cl 86 [.ref a0] h_2) fun v_9 h_8 =>
    (mm_bz v_9 (some (.inl (some (.int v_9)), h_8)))) (
  (mm_br (v_3 = (mm_i 2)) (
  mm_cI [] (cl 85 [.ref a0] h_2) fun v_7 h_6 =>
    (mm_bz v_7 (some (.inl (some (.int v_7)), h_6)))) (
  mm_cI [] (cl 91 [.ref a0, .int (mm_i 1)] h_2) fun v_5 h_4 =>
  (mm_bz v_5 (some (.inl (some (.int v_5)), h_4))))))))) := (rfl)
-- Tel.endLine
noncomputable def mm_r81_0 (E : mm_E) (cl : mm_F) (n : Nat) (a0 : Nat) (h : mm_H) : mm_R := mm_run E cl mm_m81 n 0 [some (.ref a0)] [] h
set_option maxRecDepth 20000 in
set_option maxHeartbeats 4000000 in
theorem mm_e81_0 (E : mm_E) (cl : mm_F) (n : Nat) (a0 : Nat) (h : mm_H) :
  mm_r81_0 E cl (n + 1) a0 h =
  mm_gR h a0 6 0 fun p_1 =>
  mm_cI [] (cl 96 [.ref p_1, .int (mm_i 59)] h) fun v_3 h_2 =>
  (mm_br (v_3 = (mm_i 0)) (
  mm_cI [] (cl 91 [.ref a0, .int (mm_i 1)] h_2) fun v_5 h_4 =>
    (mm_br (v_5 = (mm_i 0)) (
    (mm_bz (mm_i 0) (some (.inl (some (.int (mm_i 0))), h_4)))) (
    (mm_bz (mm_i 1) (some (.inl (some (.int (mm_i 1))), h_4)))))) (
  (mm_bz (mm_i 1) (some (.inl (some (.int (mm_i 1))), h_2))))) := (rfl)
-- Tel.readStage
noncomputable def mm_r82_0 (E : mm_E) (cl : mm_F) (n : Nat) (a0 : Nat) (h : mm_H) : mm_R := mm_run E cl mm_m82 n 0 [some (.ref a0)] [] h
noncomputable def mm_r82_48 (E : mm_E) (cl : mm_F) (n : Nat) (a0 : Nat) (h : mm_H) : mm_R := mm_run E cl mm_m82 n 48 [some (.ref a0)] [] h
noncomputable def mm_r82_68 (E : mm_E) (cl : mm_F) (n : Nat) (a0 : Nat) (h : mm_H) : mm_R := mm_run E cl mm_m82 n 68 [some (.ref a0)] [] h
noncomputable def mm_r82_108 (E : mm_E) (cl : mm_F) (n : Nat) (a0 : Nat) (h : mm_H) : mm_R := mm_run E cl mm_m82 n 108 [some (.ref a0)] [] h
set_option maxRecDepth 20000 in
set_option maxHeartbeats 4000000 in
theorem mm_e82_0 (E : mm_E) (cl : mm_F) (n : Nat) (a0 : Nat) (h : mm_H) :
  mm_r82_0 E cl (n + 1) a0 h =
  mm_gR h a0 6 1 fun p_1 =>
  mm_gI h p_1 3 10 fun v_2 =>
  (mm_br (v_2 < (mm_i 12)) (
  mm_gR h a0 6 0 fun p_3 =>
    mm_cV [] (cl 95 [.ref p_3] h) fun h_4 =>
    mm_cI [] (cl 83 [.ref a0] h_4) fun v_6 h_5 =>
    (mm_br (v_6 = (mm_i 0)) (
    (mm_bz (mm_i 0) (some (.inl (some (.int (mm_i 0))), h_5)))) (
    mm_cI [] (cl 84 [.ref a0, .int (mm_i 0)] h_5) fun v_8 h_7 =>
      (mm_br (v_8 = (mm_i 0)) (
      (mm_bz (mm_i 0) (some (.inl (some (.int (mm_i 0))), h_7)))) (
      mm_cI [] (cl 84 [.ref a0, .int (mm_i 1)] h_7) fun v_10 h_9 =>
        (mm_br (v_10 = (mm_i 0)) (
        (mm_bz (mm_i 0) (some (.inl (some (.int (mm_i 0))), h_9)))) (
        mm_r82_48 E cl n a0 h_9))))))) (
  mm_cI [] (cl 91 [.ref a0, .int (mm_i 5)] h) fun v_12 h_11 =>
    (mm_bz v_12 (some (.inl (some (.int v_12)), h_11))))) := (rfl)
set_option maxRecDepth 20000 in
set_option maxHeartbeats 4000000 in
theorem mm_e82_48 (E : mm_E) (cl : mm_F) (n : Nat) (a0 : Nat) (h : mm_H) :
  mm_r82_48 E cl (n + 1) a0 h =
  mm_gR h a0 6 0 fun p_1 =>
  mm_cI [] (cl 97 [.ref p_1, .ref (E.2.2.1 3)] h) fun v_3 h_2 =>
  (mm_br (v_3 = (mm_i 0)) (
  mm_r82_68 E cl n a0 h_2) (
  mm_cI [] (cl 84 [.ref a0, .int (mm_i 2)] h_2) fun v_5 h_4 =>
    (mm_br (v_5 = (mm_i 0)) (
    (mm_bz (mm_i 0) (some (.inl (some (.int (mm_i 0))), h_4)))) (
    mm_r82_68 E cl n a0 h_4)))) := (rfl)
set_option maxRecDepth 20000 in
set_option maxHeartbeats 4000000 in
theorem mm_e82_68 (E : mm_E) (cl : mm_F) (n : Nat) (a0 : Nat) (h : mm_H) :
  mm_r82_68 E cl (n + 1) a0 h =
  mm_gR h a0 6 0 fun p_1 =>
  mm_cI [] (cl 97 [.ref p_1, .ref (E.2.2.1 4)] h) fun v_3 h_2 =>
  (mm_br (v_3 = (mm_i 0)) (
  mm_gR h_2 a0 6 0 fun p_4 =>
    mm_cI [] (cl 97 [.ref p_4, .ref (E.2.2.1 5)] h_2) fun v_6 h_5 =>
    (mm_br (v_6 = (mm_i 0)) (
    (mm_bz (mm_i 1) (some (.inl (some (.int (mm_i 1))), h_5)))) (
    mm_r82_108 E cl n a0 h_5))) (
  mm_cI [] (cl 84 [.ref a0, .int (mm_i 3)] h_2) fun v_8 h_7 =>
    (mm_br (v_8 = (mm_i 0)) (
    (mm_bz (mm_i 0) (some (.inl (some (.int (mm_i 0))), h_7)))) (
    mm_cI [] (cl 84 [.ref a0, .int (mm_i 4)] h_7) fun v_10 h_9 =>
      (mm_br (v_10 = (mm_i 0)) (
      (mm_bz (mm_i 0) (some (.inl (some (.int (mm_i 0))), h_9)))) (
      mm_gR h_9 a0 6 0 fun p_11 =>
        mm_cI [] (cl 97 [.ref p_11, .ref (E.2.2.1 5)] h_9) fun v_13 h_12 =>
        (mm_br (v_13 = (mm_i 0)) (
        (mm_bz (mm_i 1) (some (.inl (some (.int (mm_i 1))), h_12)))) (
        mm_r82_108 E cl n a0 h_12)))))))) := (rfl)
set_option maxRecDepth 20000 in
set_option maxHeartbeats 4000000 in
theorem mm_e82_108 (E : mm_E) (cl : mm_F) (n : Nat) (a0 : Nat) (h : mm_H) :
  mm_r82_108 E cl (n + 1) a0 h =
  mm_cI [] (cl 84 [.ref a0, .int (mm_i 5)] h) fun v_2 h_1 =>
  (mm_br (v_2 = (mm_i 0)) (
  (mm_bz (mm_i 0) (some (.inl (some (.int (mm_i 0))), h_1)))) (
  (mm_bz (mm_i 1) (some (.inl (some (.int (mm_i 1))), h_1))))) := (rfl)
-- Tel.readNewName
noncomputable def mm_r83_0 (E : mm_E) (cl : mm_F) (n : Nat) (a0 : Nat) (h : mm_H) : mm_R := mm_run E cl mm_m83 n 0 [some (.ref a0), none, none] [] h
noncomputable def mm_r83_37 (E : mm_E) (cl : mm_F) (n : Nat) (a0 : Nat) (x1 : Int32) (x2 : Int32) (h : mm_H) : mm_R := mm_run E cl mm_m83 n 37 [some (.ref a0), some (.int x1), some (.int x2)] [] h
set_option maxRecDepth 20000 in
set_option maxHeartbeats 4000000 in
theorem mm_e83_0 (E : mm_E) (cl : mm_F) (n : Nat) (a0 : Nat) (h : mm_H) :
  mm_r83_0 E cl (n + 1) a0 h =
  mm_cI [] (cl 88 [.ref a0] h) fun v_2 h_1 =>
  (mm_br (v_2 = (mm_i 0)) (
  mm_cI [] (cl 91 [.ref a0, .int (mm_i 1)] h_1) fun v_11 h_10 =>
    (mm_bz v_11 (some (.inl (some (.int v_11)), h_10)))) (
  mm_cI [] (cl 89 [.ref a0] h_1) fun v_4 h_3 =>
    (mm_br (v_4 = (mm_i (-1))) (
    mm_gR h_3 a0 6 1 fun p_5 =>
      mm_cI [] (cl 36 [.ref p_5] h_3) fun v_7 h_6 =>
      mm_r83_37 E cl n a0 v_7 (mm_i 0) h_6) (
    mm_cI [] (cl 91 [.ref a0, .int (mm_i 3)] h_3) fun v_9 h_8 =>
      (mm_bz v_9 (some (.inl (some (.int v_9)), h_8))))))) := (rfl)
set_option maxRecDepth 20000 in
set_option maxHeartbeats 4000000 in
theorem mm_e83_37 (E : mm_E) (cl : mm_F) (n : Nat) (a0 : Nat) (x1 : Int32) (x2 : Int32) (h : mm_H) :
  mm_r83_37 E cl (n + 1) a0 x1 x2 h =
  (mm_br ((mm_i 6) ≤ x2) (
  mm_gR h a0 6 0 fun p_1 =>
    mm_cV [] (cl 95 [.ref p_1] h) fun h_2 =>
    (mm_bz (mm_i 1) (some (.inl (some (.int (mm_i 1))), h_2)))) (
  (mm_br (x1 = (mm_i (-1))) (
    mm_gR h a0 6 0 fun p_3 =>
      mm_cV [] (cl 95 [.ref p_3] h) fun h_4 =>
      (mm_bz (mm_i 1) (some (.inl (some (.int (mm_i 1))), h_4)))) (
    mm_gR h a0 6 1 fun p_5 =>
      mm_gR h p_5 3 1 fun p_6 =>
      mm_gR h a0 6 0 fun p_7 =>
      mm_gI h p_7 7 3 fun v_8 =>
      mm_cI [] (cl 90 [.ref a0, .int (v_8 + x2)] h) fun v_10 h_9 =>
      mm_wI h_9 p_6 ((x1 * (mm_i 6)) + x2) v_10 fun h_11 =>
      mm_r83_37 E cl n a0 x1 (x2 + (mm_i 1)) h_11)))) := (rfl)
-- Tel.readTold
noncomputable def mm_r84_0 (E : mm_E) (cl : mm_F) (n : Nat) (a0 : Nat) (x1 : Int32) (h : mm_H) : mm_R := mm_run E cl mm_m84 n 0 [some (.ref a0), some (.int x1)] [] h
noncomputable def mm_r84_37 (E : mm_E) (cl : mm_F) (n : Nat) (a0 : Nat) (x1 : Int32) (h : mm_H) : mm_R := mm_run E cl mm_m84 n 37 [some (.ref a0), some (.int x1)] [] h
set_option maxRecDepth 20000 in
set_option maxHeartbeats 4000000 in
theorem mm_e84_0 (E : mm_E) (cl : mm_F) (n : Nat) (a0 : Nat) (x1 : Int32) (h : mm_H) :
  mm_r84_0 E cl (n + 1) a0 x1 h =
  mm_gR h a0 6 0 fun p_1 =>
  mm_gI h p_1 7 5 fun v_2 =>
  (mm_br (v_2 = (mm_i 2)) (
  mm_gR h a0 6 0 fun p_3 =>
    mm_cI [] (cl 99 [.ref p_3] h) fun v_5 h_4 =>
    mm_cI [] (cl 137 [.int x1, .int v_5] h_4) fun v_7 h_6 =>
    (mm_br (v_7 = (mm_i 0)) (
    mm_cI [] (cl 91 [.ref a0, .int (mm_i 2)] h_6) fun v_9 h_8 =>
      (mm_bz v_9 (some (.inl (some (.int v_9)), h_8)))) (
    mm_r84_37 E cl n a0 x1 h_6))) (
  mm_cI [] (cl 91 [.ref a0, .int (mm_i 1)] h) fun v_11 h_10 =>
    (mm_bz v_11 (some (.inl (some (.int v_11)), h_10))))) := (rfl)
set_option maxRecDepth 20000 in
set_option maxHeartbeats 4000000 in
theorem mm_e84_37 (E : mm_E) (cl : mm_F) (n : Nat) (a0 : Nat) (x1 : Int32) (h : mm_H) :
  mm_r84_37 E cl (n + 1) a0 x1 h =
  mm_gR h a0 6 1 fun p_1 =>
  mm_gR h a0 6 1 fun p_2 =>
  mm_gI h p_2 3 10 fun v_3 =>
  mm_gR h a0 6 0 fun p_4 =>
  mm_cI [] (cl 99 [.ref p_4] h) fun v_6 h_5 =>
  mm_cV [] (cl 31 [.ref p_1, .int (v_3 - (mm_i 1)), .int x1, .int v_6] h_5) fun h_7 =>
  mm_gR h_7 a0 6 0 fun p_8 =>
  mm_cV [] (cl 95 [.ref p_8] h_7) fun h_9 =>
  (mm_bz (mm_i 1) (some (.inl (some (.int (mm_i 1))), h_9))) := (rfl)
-- Tel.readZ
noncomputable def mm_r85_0 (E : mm_E) (cl : mm_F) (n : Nat) (a0 : Nat) (h : mm_H) : mm_R := mm_run E cl mm_m85 n 0 [some (.ref a0)] [] h
noncomputable def mm_r85_57 (E : mm_E) (cl : mm_F) (n : Nat) (a0 : Nat) (h : mm_H) : mm_R := mm_run E cl mm_m85 n 57 [some (.ref a0)] [] h
set_option maxRecDepth 20000 in
set_option maxHeartbeats 4000000 in
theorem mm_e85_0 (E : mm_E) (cl : mm_F) (n : Nat) (a0 : Nat) (h : mm_H) :
  mm_r85_0 E cl (n + 1) a0 h =
  mm_gR h a0 6 0 fun p_1 =>
  mm_cV [] (cl 95 [.ref p_1] h) fun h_2 =>
  mm_gR h_2 a0 6 0 fun p_3 =>
  mm_gI h_2 p_3 7 5 fun v_4 =>
  (mm_br (v_4 = (mm_i 2)) (
  mm_gR h_2 a0 6 0 fun p_5 =>
    mm_cI [] (cl 99 [.ref p_5] h_2) fun v_7 h_6 =>
    (mm_br (v_7 ≤ (mm_i 400)) (
    mm_gR h_6 a0 6 1 fun p_8 =>
      mm_gR h_6 a0 6 0 fun p_9 =>
      mm_cI [] (cl 99 [.ref p_9] h_6) fun v_11 h_10 =>
      mm_pF h_10 p_8 3 11 (.int v_11) fun h_12 =>
      mm_r85_57 E cl n a0 h_12) (
    mm_cI [] (cl 91 [.ref a0, .int (mm_i 2)] h_6) fun v_14 h_13 =>
      (mm_bz v_14 (some (.inl (some (.int v_14)), h_13)))))) (
  mm_cI [] (cl 91 [.ref a0, .int (mm_i 1)] h_2) fun v_16 h_15 =>
    (mm_bz v_16 (some (.inl (some (.int v_16)), h_15))))) := (rfl)
set_option maxRecDepth 20000 in
set_option maxHeartbeats 4000000 in
theorem mm_e85_57 (E : mm_E) (cl : mm_F) (n : Nat) (a0 : Nat) (h : mm_H) :
  mm_r85_57 E cl (n + 1) a0 h =
  mm_gR h a0 6 0 fun p_1 =>
  mm_cV [] (cl 95 [.ref p_1] h) fun h_2 =>
  (mm_bz (mm_i 1) (some (.inl (some (.int (mm_i 1))), h_2))) := (rfl)
-- Tel.readFrom
noncomputable def mm_r86_0 (E : mm_E) (cl : mm_F) (n : Nat) (a0 : Nat) (h : mm_H) : mm_R := mm_run E cl mm_m86 n 0 [some (.ref a0), none, none] [] h
noncomputable def mm_r86_42 (E : mm_E) (cl : mm_F) (n : Nat) (a0 : Nat) (x1 : Int32) (x2 : Int32) (h : mm_H) : mm_R := mm_run E cl mm_m86 n 42 [some (.ref a0), some (.int x1), some (.int x2)] [] h
set_option maxRecDepth 20000 in
set_option maxHeartbeats 4000000 in
theorem mm_e86_0 (E : mm_E) (cl : mm_F) (n : Nat) (a0 : Nat) (h : mm_H) :
  mm_r86_0 E cl (n + 1) a0 h =
  mm_gR h a0 6 0 fun p_1 =>
  mm_cV [] (cl 95 [.ref p_1] h) fun h_2 =>
  mm_cI [] (cl 87 [.ref a0] h_2) fun v_4 h_3 =>
  (mm_br (v_4 = (mm_i 0)) (
  (mm_bz (mm_i 0) (some (.inl (some (.int (mm_i 0))), h_3)))) (
  mm_cI [] (cl 89 [.ref a0] h_3) fun v_6 h_5 =>
    mm_gR h_5 a0 6 0 fun p_7 =>
    mm_cV [] (cl 95 [.ref p_7] h_5) fun h_8 =>
    mm_cI [] (cl 87 [.ref a0] h_8) fun v_10 h_9 =>
    (mm_br (v_10 = (mm_i 0)) (
    (mm_bz (mm_i 0) (some (.inl (some (.int (mm_i 0))), h_9)))) (
    mm_cI [] (cl 89 [.ref a0] h_9) fun v_12 h_11 =>
      mm_r86_42 E cl n a0 v_6 v_12 h_11)))) := (rfl)
set_option maxRecDepth 20000 in
set_option maxHeartbeats 4000000 in
theorem mm_e86_42 (E : mm_E) (cl : mm_F) (n : Nat) (a0 : Nat) (x1 : Int32) (x2 : Int32) (h : mm_H) :
  mm_r86_42 E cl (n + 1) a0 x1 x2 h =
  mm_gR h a0 6 1 fun p_1 =>
  mm_cI [] (cl 40 [.ref p_1, .int x1, .int x2] h) fun v_3 h_2 =>
  (mm_br (v_3 = (mm_i 0)) (
  mm_gR h_2 a0 6 1 fun p_4 =>
    mm_cV [] (cl 38 [.ref p_4, .int x1, .int x2] h_2) fun h_5 =>
    mm_gR h_5 a0 6 0 fun p_6 =>
    mm_cV [] (cl 95 [.ref p_6] h_5) fun h_7 =>
    (mm_bz (mm_i 1) (some (.inl (some (.int (mm_i 1))), h_7)))) (
  mm_cI [] (cl 91 [.ref a0, .int (mm_i 4)] h_2) fun v_9 h_8 =>
    (mm_bz v_9 (some (.inl (some (.int v_9)), h_8))))) := (rfl)
-- Tel.isToldName
noncomputable def mm_r87_0 (E : mm_E) (cl : mm_F) (n : Nat) (a0 : Nat) (h : mm_H) : mm_R := mm_run E cl mm_m87 n 0 [some (.ref a0)] [] h
set_option maxRecDepth 20000 in
set_option maxHeartbeats 4000000 in
theorem mm_e87_0 (E : mm_E) (cl : mm_F) (n : Nat) (a0 : Nat) (h : mm_H) :
  mm_r87_0 E cl (n + 1) a0 h =
  mm_cI [] (cl 88 [.ref a0] h) fun v_2 h_1 =>
  (mm_br (v_2 = (mm_i 0)) (
  mm_cI [] (cl 91 [.ref a0, .int (mm_i 1)] h_1) fun v_8 h_7 =>
    (mm_bz v_8 (some (.inl (some (.int v_8)), h_7)))) (
  mm_cI [] (cl 89 [.ref a0] h_1) fun v_4 h_3 =>
    (mm_br (v_4 = (mm_i (-1))) (
    mm_cI [] (cl 91 [.ref a0, .int (mm_i 3)] h_3) fun v_6 h_5 =>
      (mm_br (v_6 = (mm_i 0)) (
      (mm_bz (mm_i 0) (some (.inl (some (.int (mm_i 0))), h_5)))) (
      (mm_bz (mm_i 1) (some (.inl (some (.int (mm_i 1))), h_5)))))) (
    (mm_bz (mm_i 1) (some (.inl (some (.int (mm_i 1))), h_3))))))) := (rfl)
-- Tel.isName
noncomputable def mm_r88_0 (E : mm_E) (cl : mm_F) (n : Nat) (a0 : Nat) (h : mm_H) : mm_R := mm_run E cl mm_m88 n 0 [some (.ref a0)] [] h
set_option maxRecDepth 20000 in
set_option maxHeartbeats 4000000 in
theorem mm_e88_0 (E : mm_E) (cl : mm_F) (n : Nat) (a0 : Nat) (h : mm_H) :
  mm_r88_0 E cl (n + 1) a0 h =
  mm_gR h a0 6 0 fun p_1 =>
  mm_gI h p_1 7 5 fun v_2 =>
  (mm_br (v_2 = (mm_i 1)) (
  mm_gR h a0 6 0 fun p_3 =>
    mm_gI h p_3 7 4 fun v_4 =>
    mm_gR h a0 6 0 fun p_5 =>
    mm_gI h p_5 7 3 fun v_6 =>
    (mm_br ((mm_i 6) < (v_4 - v_6)) (
    (mm_bz (mm_i 0) (some (.inl (some (.int (mm_i 0))), h)))) (
    mm_gR h a0 6 0 fun p_7 =>
      mm_cI [] (cl 98 [.ref p_7, .ref (E.2.2.1 2)] h) fun v_9 h_8 =>
      (mm_br (v_9 = (mm_i (-1))) (
      (mm_bz (mm_i 1) (some (.inl (some (.int (mm_i 1))), h_8)))) (
      (mm_bz (mm_i 0) (some (.inl (some (.int (mm_i 0))), h_8)))))))) (
  (mm_bz (mm_i 0) (some (.inl (some (.int (mm_i 0))), h))))) := (rfl)
-- Tel.findName
noncomputable def mm_r89_0 (E : mm_E) (cl : mm_F) (n : Nat) (a0 : Nat) (h : mm_H) : mm_R := mm_run E cl mm_m89 n 0 [some (.ref a0), none, none, none] [] h
noncomputable def mm_r89_2 (E : mm_E) (cl : mm_F) (n : Nat) (a0 : Nat) (x1 : Int32) (o2 : Option Value) (o3 : Option Value) (h : mm_H) : mm_R := mm_run E cl mm_m89 n 2 [some (.ref a0), some (.int x1), o2, o3] [] h
noncomputable def mm_r89_17 (E : mm_E) (cl : mm_F) (n : Nat) (a0 : Nat) (x1 : Int32) (x2 : Int32) (x3 : Int32) (h : mm_H) : mm_R := mm_run E cl mm_m89 n 17 [some (.ref a0), some (.int x1), some (.int x2), some (.int x3)] [] h
set_option maxRecDepth 20000 in
set_option maxHeartbeats 4000000 in
theorem mm_e89_0 (E : mm_E) (cl : mm_F) (n : Nat) (a0 : Nat) (h : mm_H) :
  mm_r89_0 E cl (n + 1) a0 h =
  mm_r89_2 E cl n a0 (mm_i 0) none none h := (rfl)
set_option maxRecDepth 20000 in
set_option maxHeartbeats 4000000 in
theorem mm_e89_2 (E : mm_E) (cl : mm_F) (n : Nat) (a0 : Nat) (x1 : Int32) (o2 : Option Value) (o3 : Option Value) (h : mm_H) :
  mm_r89_2 E cl (n + 1) a0 x1 o2 o3 h =
  mm_gR h a0 6 1 fun p_1 =>
  mm_gI h p_1 3 10 fun v_2 =>
  (mm_br (v_2 ≤ x1) (
  some (.inl (some (.int (mm_i (-1)))), h)) (
  mm_r89_17 E cl n a0 x1 (mm_i 1) (mm_i 0) h)) := (rfl)
set_option maxRecDepth 20000 in
set_option maxHeartbeats 4000000 in
theorem mm_e89_17 (E : mm_E) (cl : mm_F) (n : Nat) (a0 : Nat) (x1 : Int32) (x2 : Int32) (x3 : Int32) (h : mm_H) :
  mm_r89_17 E cl (n + 1) a0 x1 x2 x3 h =
  (mm_br ((mm_i 6) ≤ x3) (
  (mm_br (x2 = (mm_i 0)) (
    mm_r89_2 E cl n a0 (x1 + (mm_i 1)) (some (.int x2)) (some (.int x3)) h) (
    some (.inl (some (.int x1)), h)))) (
  (mm_br (x2 = (mm_i 0)) (
    mm_r89_17 E cl n a0 x1 (mm_i 0) (x3 + (mm_i 1)) h) (
    mm_gR h a0 6 1 fun p_1 =>
      mm_gR h p_1 3 1 fun p_2 =>
      mm_rI E h p_2 ((x1 * (mm_i 6)) + x3) fun v_3 =>
      mm_gR h a0 6 0 fun p_4 =>
      mm_gI h p_4 7 3 fun v_5 =>
      mm_cI [] (cl 90 [.ref a0, .int (v_5 + x3)] h) fun v_7 h_6 =>
      (mm_br (v_3 = v_7) (
      mm_r89_17 E cl n a0 x1 (mm_i 1) (x3 + (mm_i 1)) h_6) (
      mm_r89_17 E cl n a0 x1 (mm_i 0) (x3 + (mm_i 1)) h_6)))))) := (rfl)
-- Tel.letterAt
noncomputable def mm_r90_0 (E : mm_E) (cl : mm_F) (n : Nat) (a0 : Nat) (x1 : Int32) (h : mm_H) : mm_R := mm_run E cl mm_m90 n 0 [some (.ref a0), some (.int x1)] [] h
set_option maxRecDepth 20000 in
set_option maxHeartbeats 4000000 in
theorem mm_e90_0 (E : mm_E) (cl : mm_F) (n : Nat) (a0 : Nat) (x1 : Int32) (h : mm_H) :
  mm_r90_0 E cl (n + 1) a0 x1 h =
  mm_gR h a0 6 0 fun p_1 =>
  mm_gI h p_1 7 4 fun v_2 =>
  (mm_br (v_2 ≤ x1) (
  some (.inl (some (.int (mm_i 0))), h)) (
  mm_gR h a0 6 0 fun p_3 =>
    mm_gR h p_3 7 0 fun p_4 =>
    mm_rI E h p_4 x1 fun v_5 =>
    some (.inl (some (.int ((v_5 - (mm_i 97)) + (mm_i 1)))), h))) := (rfl)
-- Tel.refuse
noncomputable def mm_r91_0 (E : mm_E) (cl : mm_F) (n : Nat) (a0 : Nat) (x1 : Int32) (h : mm_H) : mm_R := mm_run E cl mm_m91 n 0 [some (.ref a0), some (.int x1)] [] h
set_option maxRecDepth 20000 in
set_option maxHeartbeats 4000000 in
theorem mm_e91_0 (E : mm_E) (cl : mm_F) (n : Nat) (a0 : Nat) (x1 : Int32) (h : mm_H) :
  mm_r91_0 E cl (n + 1) a0 x1 h =
  mm_pF h a0 6 2 (.int x1) fun h_1 =>
  (mm_bz (mm_i 0) (some (.inl (some (.int (mm_i 0))), h_1))) := (rfl)
-- Tok.init
noncomputable def mm_r92_0 (E : mm_E) (cl : mm_F) (n : Nat) (a0 : Nat) (h : mm_H) : mm_R := mm_run E cl mm_m92 n 0 [some (.ref a0)] [] h
set_option maxRecDepth 20000 in
set_option maxHeartbeats 4000000 in
theorem mm_e92_0 (E : mm_E) (cl : mm_F) (n : Nat) (a0 : Nat) (h : mm_H) :
  mm_r92_0 E cl (n + 1) a0 h =
  mm_nn (mm_i 400) fun k_3 => mm_al h (.inr (.inl (k_3, fun _ => 0))) k_3 fun p_1 h_2 =>
  mm_pF h_2 a0 7 0 (.ref p_1) fun h_4 =>
  mm_pF h_4 a0 7 1 (.int (mm_i 0)) fun h_5 =>
  mm_pF h_5 a0 7 2 (.int (mm_i 0)) fun h_6 =>
  mm_pF h_6 a0 7 3 (.int (mm_i 0)) fun h_7 =>
  mm_pF h_7 a0 7 4 (.int (mm_i 0)) fun h_8 =>
  mm_pF h_8 a0 7 5 (.int (mm_i 0)) fun h_9 =>
  some (.inl none, h_9) := (rfl)
-- Tok.put
noncomputable def mm_r93_0 (E : mm_E) (cl : mm_F) (n : Nat) (a0 : Nat) (x1 : Int32) (h : mm_H) : mm_R := mm_run E cl mm_m93 n 0 [some (.ref a0), some (.int x1), none] [] h
noncomputable def mm_r93_3 (E : mm_E) (cl : mm_F) (n : Nat) (a0 : Nat) (x1 : Int32) (x2 : Int32) (h : mm_H) : mm_R := mm_run E cl mm_m93 n 3 [some (.ref a0), some (.int x1), some (.int x2)] [] h
noncomputable def mm_r93_33 (E : mm_E) (cl : mm_F) (n : Nat) (a0 : Nat) (x1 : Int32) (x2 : Int32) (h : mm_H) : mm_R := mm_run E cl mm_m93 n 33 [some (.ref a0), some (.int x1), some (.int x2)] [] h
set_option maxRecDepth 20000 in
set_option maxHeartbeats 4000000 in
theorem mm_e93_0 (E : mm_E) (cl : mm_F) (n : Nat) (a0 : Nat) (x1 : Int32) (h : mm_H) :
  mm_r93_0 E cl (n + 1) a0 x1 h =
  mm_r93_3 E cl n a0 x1 (mm_i 24) h := (rfl)
set_option maxRecDepth 20000 in
set_option maxHeartbeats 4000000 in
theorem mm_e93_3 (E : mm_E) (cl : mm_F) (n : Nat) (a0 : Nat) (x1 : Int32) (x2 : Int32) (h : mm_H) :
  mm_r93_3 E cl (n + 1) a0 x1 x2 h =
  (mm_br (x2 < (mm_i 0)) (
  some (.inl none, h)) (
  mm_gI h a0 7 1 fun v_1 =>
    (mm_br ((mm_i 400) ≤ v_1) (
    some (.inl none, h)) (
    mm_gR h a0 7 0 fun p_2 =>
      mm_gI h a0 7 1 fun v_3 =>
      mm_wI h p_2 v_3 ((((x1).toUInt32 >>> ((x2 : Int32).toUInt32 &&& Int32.toUInt32 31)).toInt32) &&& (mm_i 255)) fun h_4 =>
      mm_r93_33 E cl n a0 x1 x2 h_4)))) := (rfl)
set_option maxRecDepth 20000 in
set_option maxHeartbeats 4000000 in
theorem mm_e93_33 (E : mm_E) (cl : mm_F) (n : Nat) (a0 : Nat) (x1 : Int32) (x2 : Int32) (h : mm_H) :
  mm_r93_33 E cl (n + 1) a0 x1 x2 h =
  mm_gI h a0 7 1 fun v_1 =>
  mm_pF h a0 7 1 (.int (v_1 + (mm_i 1))) fun h_2 =>
  mm_r93_3 E cl n a0 x1 (x2 + (mm_i (-8))) h_2 := (rfl)
-- Tok.open
noncomputable def mm_r94_0 (E : mm_E) (cl : mm_F) (n : Nat) (a0 : Nat) (x1 : Int32) (h : mm_H) : mm_R := mm_run E cl mm_m94 n 0 [some (.ref a0), some (.int x1)] [] h
set_option maxRecDepth 20000 in
set_option maxHeartbeats 4000000 in
theorem mm_e94_0 (E : mm_E) (cl : mm_F) (n : Nat) (a0 : Nat) (x1 : Int32) (h : mm_H) :
  mm_r94_0 E cl (n + 1) a0 x1 h =
  mm_pF h a0 7 2 (.int (mm_mn x1 (mm_i 400))) fun h_1 =>
  mm_pF h_1 a0 7 4 (.int (mm_i 0)) fun h_2 =>
  mm_cV [] (cl 95 [.ref a0] h_2) fun h_3 =>
  some (.inl none, h_3) := (rfl)
-- Tok.advance
noncomputable def mm_r95_0 (E : mm_E) (cl : mm_F) (n : Nat) (a0 : Nat) (h : mm_H) : mm_R := mm_run E cl mm_m95 n 0 [some (.ref a0)] [] h
noncomputable def mm_r95_8 (E : mm_E) (cl : mm_F) (n : Nat) (a0 : Nat) (h : mm_H) : mm_R := mm_run E cl mm_m95 n 8 [some (.ref a0)] [] h
noncomputable def mm_r95_47 (E : mm_E) (cl : mm_F) (n : Nat) (a0 : Nat) (h : mm_H) : mm_R := mm_run E cl mm_m95 n 47 [some (.ref a0)] [] h
noncomputable def mm_r95_60 (E : mm_E) (cl : mm_F) (n : Nat) (a0 : Nat) (h : mm_H) : mm_R := mm_run E cl mm_m95 n 60 [some (.ref a0)] [] h
noncomputable def mm_r95_88 (E : mm_E) (cl : mm_F) (n : Nat) (a0 : Nat) (b0 : Nat) (s1 : Int32) (h : mm_H) : mm_R := mm_run E cl mm_m95 n 88 [some (.ref a0)] [.int s1, .ref b0] h
noncomputable def mm_r95_124 (E : mm_E) (cl : mm_F) (n : Nat) (a0 : Nat) (h : mm_H) : mm_R := mm_run E cl mm_m95 n 124 [some (.ref a0)] [] h
set_option maxRecDepth 20000 in
set_option maxHeartbeats 4000000 in
theorem mm_e95_0 (E : mm_E) (cl : mm_F) (n : Nat) (a0 : Nat) (h : mm_H) :
  mm_r95_0 E cl (n + 1) a0 h =
  mm_gI h a0 7 4 fun v_1 =>
  mm_pF h a0 7 3 (.int v_1) fun h_2 =>
  mm_r95_8 E cl n a0 h_2 := (rfl)
set_option maxRecDepth 20000 in
set_option maxHeartbeats 4000000 in
theorem mm_e95_8 (E : mm_E) (cl : mm_F) (n : Nat) (a0 : Nat) (h : mm_H) :
  mm_r95_8 E cl (n + 1) a0 h =
  mm_gI h a0 7 3 fun v_1 =>
  mm_gI h a0 7 2 fun v_2 =>
  (mm_br (v_2 ≤ v_1) (
  mm_r95_60 E cl n a0 h) (
  mm_gR h a0 7 0 fun p_3 =>
    mm_gI h a0 7 3 fun v_4 =>
    mm_rI E h p_3 v_4 fun v_5 =>
    (mm_br (v_5 = (mm_i 32)) (
    mm_r95_47 E cl n a0 h) (
    mm_gR h a0 7 0 fun p_6 =>
      mm_gI h a0 7 3 fun v_7 =>
      mm_rI E h p_6 v_7 fun v_8 =>
      (mm_br (v_8 = (mm_i 10)) (
      mm_r95_47 E cl n a0 h) (
      mm_r95_60 E cl n a0 h)))))) := (rfl)
set_option maxRecDepth 20000 in
set_option maxHeartbeats 4000000 in
theorem mm_e95_47 (E : mm_E) (cl : mm_F) (n : Nat) (a0 : Nat) (h : mm_H) :
  mm_r95_47 E cl (n + 1) a0 h =
  mm_gI h a0 7 3 fun v_1 =>
  mm_pF h a0 7 3 (.int (v_1 + (mm_i 1))) fun h_2 =>
  mm_r95_8 E cl n a0 h_2 := (rfl)
set_option maxRecDepth 20000 in
set_option maxHeartbeats 4000000 in
theorem mm_e95_60 (E : mm_E) (cl : mm_F) (n : Nat) (a0 : Nat) (h : mm_H) :
  mm_r95_60 E cl (n + 1) a0 h =
  mm_gI h a0 7 3 fun v_1 =>
  mm_gI h a0 7 2 fun v_2 =>
  (mm_br (v_2 ≤ v_1) (
  mm_r95_88 E cl n a0 a0 (mm_i 0) h) (
  mm_gR h a0 7 0 fun p_3 =>
    mm_gI h a0 7 3 fun v_4 =>
    mm_rI E h p_3 v_4 fun v_5 =>
    mm_cI [] (cl 100 [.int v_5] h) fun v_7 h_6 =>
    mm_r95_88 E cl n a0 a0 v_7 h_6)) := (rfl)
set_option maxRecDepth 20000 in
set_option maxHeartbeats 4000000 in
theorem mm_e95_88 (E : mm_E) (cl : mm_F) (n : Nat) (a0 : Nat) (b0 : Nat) (s1 : Int32) (h : mm_H) :
  mm_r95_88 E cl (n + 1) a0 b0 s1 h =
  mm_pF h b0 7 5 (.int s1) fun h_1 =>
  mm_gI h_1 a0 7 3 fun v_2 =>
  mm_gI h_1 a0 7 2 fun v_3 =>
  mm_pF h_1 a0 7 4 (.int (mm_mn (v_2 + (mm_i 1)) v_3)) fun h_4 =>
  mm_gI h_4 a0 7 5 fun v_5 =>
  (mm_br (v_5 = (mm_i 1)) (
  mm_r95_124 E cl n a0 h_4) (
  mm_gI h_4 a0 7 5 fun v_6 =>
    (mm_br (v_6 = (mm_i 2)) (
    mm_r95_124 E cl n a0 h_4) (
    some (.inl none, h_4))))) := (rfl)
set_option maxRecDepth 20000 in
set_option maxHeartbeats 4000000 in
theorem mm_e95_124 (E : mm_E) (cl : mm_F) (n : Nat) (a0 : Nat) (h : mm_H) :
  mm_r95_124 E cl (n + 1) a0 h =
  mm_gI h a0 7 4 fun v_1 =>
  mm_gI h a0 7 2 fun v_2 =>
  (mm_br (v_2 ≤ v_1) (
  some (.inl none, h)) (
  mm_gR h a0 7 0 fun p_3 =>
    mm_gI h a0 7 4 fun v_4 =>
    mm_rI E h p_3 v_4 fun v_5 =>
    mm_cI [] (cl 100 [.int v_5] h) fun v_7 h_6 =>
    mm_gI h_6 a0 7 5 fun v_8 =>
    (mm_br (v_7 = v_8) (
    mm_gI h_6 a0 7 4 fun v_9 =>
      mm_pF h_6 a0 7 4 (.int (v_9 + (mm_i 1))) fun h_10 =>
      mm_r95_124 E cl n a0 h_10) (
    some (.inl none, h_6))))) := (rfl)
