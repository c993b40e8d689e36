/-! EQUATIONS of the runs, part 7 (by program: wip/whole/genpure.py) -/
-- Mod.pass
noncomputable def mm_r236_0 (E : mm_E) (cl : mm_F) (n : Nat) (a0 : Nat) (h : mm_H) : mm_R := mm_run E cl mm_m236 n 0 [some (.ref a0)] [] h
set_option maxRecDepth 20000 in
set_option maxHeartbeats 4000000 in
theorem mm_e236_0 (E : mm_E) (cl : mm_F) (n : Nat) (a0 : Nat) (h : mm_H) :
  mm_r236_0 E cl (n + 1) a0 h =
  mm_gI h a0 9 32 fun v_1 =>
  (mm_br (v_1 = (mm_i 0)) (
  mm_cV [] (cl 232 [.ref a0] h) fun h_2 =>
    some (.inl none, h_2)) (
  some (.inl none, h))) := (rfl)
-- Mod.must
noncomputable def mm_r237_0 (E : mm_E) (cl : mm_F) (n : Nat) (a0 : Nat) (x1 : Int32) (h : mm_H) : mm_R := mm_run E cl mm_m237 n 0 [some (.ref a0), some (.int x1)] [] h
set_option maxRecDepth 20000 in
set_option maxHeartbeats 4000000 in
theorem mm_e237_0 (E : mm_E) (cl : mm_F) (n : Nat) (a0 : Nat) (x1 : Int32) (h : mm_H) :
  mm_r237_0 E cl (n + 1) a0 x1 h =
  mm_cI [] (cl 234 [.ref a0, .int x1] h) fun v_2 h_1 =>
  (mm_br (v_2 = (mm_i 0)) (
  mm_cV [] (cl 233 [.ref a0, .int (mm_i 1)] h_1) fun h_4 =>
    mm_cV [] (cl 236 [.ref a0] h_4) fun h_5 =>
    some (.inl none, h_5)) (
  mm_cV [] (cl 236 [.ref a0] h_1) fun h_3 =>
    some (.inl none, h_3))) := (rfl)
-- Mod.opens
noncomputable def mm_r238_0 (E : mm_E) (cl : mm_F) (n : Nat) (a0 : Nat) (x1 : Int32) (h : mm_H) : mm_R := mm_run E cl mm_m238 n 0 [some (.ref a0), some (.int x1)] [] h
set_option maxRecDepth 20000 in
set_option maxHeartbeats 4000000 in
theorem mm_e238_0 (E : mm_E) (cl : mm_F) (n : Nat) (a0 : Nat) (x1 : Int32) (h : mm_H) :
  mm_r238_0 E cl (n + 1) a0 x1 h =
  mm_pF h a0 9 27 (.int x1) fun h_1 =>
  mm_pF h_1 a0 9 28 (.int (mm_i 0)) fun h_2 =>
  mm_pF h_2 a0 9 32 (.int (mm_i 0)) fun h_3 =>
  mm_pF h_3 a0 9 35 (.int (mm_i 0)) fun h_4 =>
  mm_cV [] (cl 232 [.ref a0] h_4) fun h_5 =>
  some (.inl none, h_5) := (rfl)
-- Mod.readNumber
noncomputable def mm_r239_0 (E : mm_E) (cl : mm_F) (n : Nat) (a0 : Nat) (x1 : Int32) (h : mm_H) : mm_R := mm_run E cl mm_m239 n 0 [some (.ref a0), some (.int x1), none, none] [] h
noncomputable def mm_r239_27 (E : mm_E) (cl : mm_F) (n : Nat) (a0 : Nat) (x1 : Int32) (x2 : Int32) (x3 : Int32) (h : mm_H) : mm_R := mm_run E cl mm_m239 n 27 [some (.ref a0), some (.int x1), some (.int x2), some (.int x3)] [] h
set_option maxRecDepth 20000 in
set_option maxHeartbeats 4000000 in
theorem mm_e239_0 (E : mm_E) (cl : mm_F) (n : Nat) (a0 : Nat) (x1 : Int32) (h : mm_H) :
  mm_r239_0 E cl (n + 1) a0 x1 h =
  mm_gI h a0 9 32 fun v_1 =>
  (mm_br (v_1 = (mm_i 0)) (
  mm_gI h a0 9 29 fun v_3 =>
    (mm_br (v_3 = (mm_i 2)) (
    mm_gI h a0 9 30 fun v_4 =>
      mm_r239_27 E cl n a0 x1 (mm_i 0) v_4 h) (
    mm_cV [] (cl 233 [.ref a0, .int (mm_i 1)] h) fun h_5 =>
      mm_gI h_5 a0 9 30 fun v_6 =>
      mm_r239_27 E cl n a0 x1 (mm_i 0) v_6 h_5))) (
  mm_gI h a0 9 30 fun v_2 =>
    mm_r239_27 E cl n a0 x1 (mm_i 0) v_2 h)) := (rfl)
set_option maxRecDepth 20000 in
set_option maxHeartbeats 4000000 in
theorem mm_e239_27 (E : mm_E) (cl : mm_F) (n : Nat) (a0 : Nat) (x1 : Int32) (x2 : Int32) (x3 : Int32) (h : mm_H) :
  mm_r239_27 E cl (n + 1) a0 x1 x2 x3 h =
  mm_gI h a0 9 32 fun v_1 =>
  (mm_br (v_1 = (mm_i 0)) (
  mm_gI h a0 9 31 fun v_5 =>
    (mm_br (v_5 ≤ x3) (
    (mm_br (x2 ≤ x1) (
      mm_cV [] (cl 236 [.ref a0] h) fun h_6 =>
        some (.inl (some (.int x2)), h_6)) (
      mm_cV [] (cl 233 [.ref a0, .int (mm_i 2)] h) fun h_7 =>
        mm_cV [] (cl 236 [.ref a0] h_7) fun h_8 =>
        some (.inl (some (.int x2)), h_8)))) (
    mm_gR h a0 9 25 fun p_9 =>
      mm_rI E h p_9 x3 fun v_10 =>
      mm_r239_27 E cl n a0 x1 (mm_mn (mm_i 10000) ((((mm_i 10) * x2) + v_10) - (mm_i 48))) (x3 + (mm_i 1)) h))) (
  (mm_br (x2 ≤ x1) (
    mm_cV [] (cl 236 [.ref a0] h) fun h_2 =>
      some (.inl (some (.int x2)), h_2)) (
    mm_cV [] (cl 233 [.ref a0, .int (mm_i 2)] h) fun h_3 =>
      mm_cV [] (cl 236 [.ref a0] h_3) fun h_4 =>
      some (.inl (some (.int x2)), h_4))))) := (rfl)
-- Mod.ends
noncomputable def mm_r240_0 (E : mm_E) (cl : mm_F) (n : Nat) (a0 : Nat) (h : mm_H) : mm_R := mm_run E cl mm_m240 n 0 [some (.ref a0)] [] h
set_option maxRecDepth 20000 in
set_option maxHeartbeats 4000000 in
theorem mm_e240_0 (E : mm_E) (cl : mm_F) (n : Nat) (a0 : Nat) (h : mm_H) :
  mm_r240_0 E cl (n + 1) a0 h =
  mm_pF h a0 9 26 (.int (mm_i 0)) fun h_1 =>
  mm_gI h_1 a0 9 32 fun v_2 =>
  (mm_br (v_2 = (mm_i 0)) (
  mm_pF h_1 a0 9 34 (.int (mm_i (-1))) fun h_6 =>
    mm_gI h_6 a0 9 32 fun v_7 =>
    some (.inl (some (.int v_7)), h_6)) (
  mm_gI h_1 a0 9 33 fun v_3 =>
    mm_pF h_1 a0 9 34 (.int v_3) fun h_4 =>
    mm_gI h_4 a0 9 32 fun v_5 =>
    some (.inl (some (.int v_5)), h_4))) := (rfl)
-- Mod.fault
noncomputable def mm_r241_0 (E : mm_E) (cl : mm_F) (n : Nat) (a0 : Nat) (h : mm_H) : mm_R := mm_run E cl mm_m241 n 0 [some (.ref a0)] [] h
set_option maxRecDepth 20000 in
set_option maxHeartbeats 4000000 in
theorem mm_e241_0 (E : mm_E) (cl : mm_F) (n : Nat) (a0 : Nat) (h : mm_H) :
  mm_r241_0 E cl (n + 1) a0 h =
  mm_pF h a0 9 0 (.int (mm_i 0)) fun h_1 =>
  mm_gI h_1 a0 9 34 fun v_2 =>
  some (.inl (some (.int v_2)), h_1) := (rfl)
-- Mod.isName
noncomputable def mm_r242_0 (E : mm_E) (cl : mm_F) (n : Nat) (a0 : Nat) (h : mm_H) : mm_R := mm_run E cl mm_m242 n 0 [some (.ref a0)] [] h
noncomputable def mm_r242_39 (E : mm_E) (cl : mm_F) (n : Nat) (a0 : Nat) (h : mm_H) : mm_R := mm_run E cl mm_m242 n 39 [some (.ref a0)] [] h
noncomputable def mm_r242_49 (E : mm_E) (cl : mm_F) (n : Nat) (a0 : Nat) (h : mm_H) : mm_R := mm_run E cl mm_m242 n 49 [some (.ref a0)] [] h
set_option maxRecDepth 20000 in
set_option maxHeartbeats 4000000 in
theorem mm_e242_0 (E : mm_E) (cl : mm_F) (n : Nat) (a0 : Nat) (h : mm_H) :
  mm_r242_0 E cl (n + 1) a0 h =
  mm_gI h a0 9 32 fun v_1 =>
  (mm_br (v_1 = (mm_i 0)) (
  mm_gI h a0 9 29 fun v_2 =>
    (mm_br (v_2 = (mm_i 1)) (
    mm_gI h a0 9 31 fun v_3 =>
      mm_gI h a0 9 30 fun v_4 =>
      (mm_br ((mm_i 6) < (v_3 - v_4)) (
      (mm_bz (mm_i 0) (some (.inl (some (.int (mm_i 0))), h)))) (
      mm_cI [] (cl 235 [.ref a0, .ref (E.2.2.1 25)] h) fun v_6 h_5 =>
        (mm_br (v_6 = (mm_i 0)) (
        mm_r242_39 E cl n a0 h_5) (
        (mm_bz (mm_i 0) (some (.inl (some (.int (mm_i 0))), h_5)))))))) (
    (mm_bz (mm_i 0) (some (.inl (some (.int (mm_i 0))), h)))))) (
  (mm_bz (mm_i 0) (some (.inl (some (.int (mm_i 0))), h))))) := (rfl)
set_option maxRecDepth 20000 in
set_option maxHeartbeats 4000000 in
theorem mm_e242_39 (E : mm_E) (cl : mm_F) (n : Nat) (a0 : Nat) (h : mm_H) :
  mm_r242_39 E cl (n + 1) a0 h =
  mm_cI [] (cl 235 [.ref a0, .ref (E.2.2.1 26)] h) fun v_2 h_1 =>
  (mm_br (v_2 = (mm_i 0)) (
  mm_r242_49 E cl n a0 h_1) (
  (mm_bz (mm_i 0) (some (.inl (some (.int (mm_i 0))), h_1))))) := (rfl)
set_option maxRecDepth 20000 in
set_option maxHeartbeats 4000000 in
theorem mm_e242_49 (E : mm_E) (cl : mm_F) (n : Nat) (a0 : Nat) (h : mm_H) :
  mm_r242_49 E cl (n + 1) a0 h =
  mm_cI [] (cl 235 [.ref a0, .ref (E.2.2.1 27)] h) fun v_2 h_1 =>
  (mm_br (v_2 = (mm_i 0)) (
  mm_cI [] (cl 235 [.ref a0, .ref (E.2.2.1 28)] h_1) fun v_4 h_3 =>
    (mm_br (v_4 = (mm_i 0)) (
    mm_cI [] (cl 235 [.ref a0, .ref (E.2.2.1 29)] h_3) fun v_6 h_5 =>
      (mm_br (v_6 = (mm_i 0)) (
      mm_cI [] (cl 235 [.ref a0, .ref (E.2.2.1 30)] h_5) fun v_8 h_7 =>
        (mm_br (v_8 = (mm_i 0)) (
        (mm_bz (mm_i 1) (some (.inl (some (.int (mm_i 1))), h_7)))) (
        (mm_bz (mm_i 0) (some (.inl (some (.int (mm_i 0))), h_7)))))) (
      (mm_bz (mm_i 0) (some (.inl (some (.int (mm_i 0))), h_5)))))) (
    (mm_bz (mm_i 0) (some (.inl (some (.int (mm_i 0))), h_3)))))) (
  (mm_bz (mm_i 0) (some (.inl (some (.int (mm_i 0))), h_1))))) := (rfl)
-- Mod.named
noncomputable def mm_r243_0 (E : mm_E) (cl : mm_F) (n : Nat) (a0 : Nat) (h : mm_H) : mm_R := mm_run E cl mm_m243 n 0 [some (.ref a0), none, none, none] [] h
noncomputable def mm_r243_2 (E : mm_E) (cl : mm_F) (n : Nat) (a0 : Nat) (x1 : Int32) (o2 : Option Value) (o3 : Option Value) (h : mm_H) : mm_R := mm_run E cl mm_m243 n 2 [some (.ref a0), some (.int x1), o2, o3] [] h
noncomputable def mm_r243_16 (E : mm_E) (cl : mm_F) (n : Nat) (a0 : Nat) (x1 : Int32) (x2 : Int32) (x3 : Int32) (h : mm_H) : mm_R := mm_run E cl mm_m243 n 16 [some (.ref a0), some (.int x1), some (.int x2), some (.int x3)] [] h
set_option maxRecDepth 20000 in
set_option maxHeartbeats 4000000 in
theorem mm_e243_0 (E : mm_E) (cl : mm_F) (n : Nat) (a0 : Nat) (h : mm_H) :
  mm_r243_0 E cl (n + 1) a0 h =
  mm_r243_2 E cl n a0 (mm_i 0) none none h := (rfl)
set_option maxRecDepth 20000 in
set_option maxHeartbeats 4000000 in
theorem mm_e243_2 (E : mm_E) (cl : mm_F) (n : Nat) (a0 : Nat) (x1 : Int32) (o2 : Option Value) (o3 : Option Value) (h : mm_H) :
  mm_r243_2 E cl (n + 1) a0 x1 o2 o3 h =
  mm_gR h a0 9 2 fun p_1 =>
  mm_rI E h p_1 (mm_i 0) fun v_2 =>
  (mm_br (v_2 ≤ x1) (
  some (.inl (some (.int (mm_i (-1)))), h)) (
  mm_r243_16 E cl n a0 x1 (mm_i 1) (mm_i 0) h)) := (rfl)
set_option maxRecDepth 20000 in
set_option maxHeartbeats 4000000 in
theorem mm_e243_16 (E : mm_E) (cl : mm_F) (n : Nat) (a0 : Nat) (x1 : Int32) (x2 : Int32) (x3 : Int32) (h : mm_H) :
  mm_r243_16 E cl (n + 1) a0 x1 x2 x3 h =
  (mm_br ((mm_i 6) ≤ x3) (
  (mm_br (x2 = (mm_i 0)) (
    mm_r243_2 E cl n a0 (x1 + (mm_i 1)) (some (.int x2)) (some (.int x3)) h) (
    some (.inl (some (.int x1)), h)))) (
  (mm_br (x2 = (mm_i 0)) (
    mm_r243_16 E cl n a0 x1 (mm_i 0) (x3 + (mm_i 1)) h) (
    mm_gR h a0 9 2 fun p_1 =>
      mm_rI E h p_1 (((mm_i 87) + ((mm_i 6) * x1)) + x3) fun v_2 =>
      mm_gI h a0 9 30 fun v_3 =>
      mm_gI h a0 9 31 fun v_4 =>
      (mm_br (v_4 ≤ (v_3 + x3)) (
      (mm_br (v_2 = (mm_i 0)) (
        mm_r243_16 E cl n a0 x1 (mm_i 1) (x3 + (mm_i 1)) h) (
        mm_r243_16 E cl n a0 x1 (mm_i 0) (x3 + (mm_i 1)) h))) (
      mm_gR h a0 9 25 fun p_5 =>
        mm_gI h a0 9 30 fun v_6 =>
        mm_rI E h p_5 (v_6 + x3) fun v_7 =>
        (mm_br (v_2 = (v_7 - (mm_i 96))) (
        mm_r243_16 E cl n a0 x1 (mm_i 1) (x3 + (mm_i 1)) h) (
        mm_r243_16 E cl n a0 x1 (mm_i 0) (x3 + (mm_i 1)) h)))))))) := (rfl)
-- Mod.readKnown
noncomputable def mm_r244_0 (E : mm_E) (cl : mm_F) (n : Nat) (a0 : Nat) (h : mm_H) : mm_R := mm_run E cl mm_m244 n 0 [some (.ref a0), none] [] h
noncomputable def mm_r244_27 (E : mm_E) (cl : mm_F) (n : Nat) (a0 : Nat) (o1 : Option Value) (s0 : Int32) (h : mm_H) : mm_R := mm_run E cl mm_m244 n 27 [some (.ref a0), o1] [.int s0] h
set_option maxRecDepth 20000 in
set_option maxHeartbeats 4000000 in
theorem mm_e244_0 (E : mm_E) (cl : mm_F) (n : Nat) (a0 : Nat) (h : mm_H) :
  mm_r244_0 E cl (n + 1) a0 h =
  mm_cI [] (cl 242 [.ref a0] h) fun v_2 h_1 =>
  (mm_br (v_2 = (mm_i 0)) (
  mm_cV [] (cl 233 [.ref a0, .int (mm_i 1)] h_1) fun h_6 =>
    mm_gI h_6 a0 9 32 fun v_7 =>
    (mm_br (v_7 = (mm_i 0)) (
    mm_cI [] (cl 243 [.ref a0] h_6) fun v_9 h_8 =>
      mm_r244_27 E cl n a0 none v_9 h_8) (
    mm_r244_27 E cl n a0 none (mm_i 0) h_6))) (
  mm_gI h_1 a0 9 32 fun v_3 =>
    (mm_br (v_3 = (mm_i 0)) (
    mm_cI [] (cl 243 [.ref a0] h_1) fun v_5 h_4 =>
      mm_r244_27 E cl n a0 none v_5 h_4) (
    mm_r244_27 E cl n a0 none (mm_i 0) h_1)))) := (rfl)
set_option maxRecDepth 20000 in
set_option maxHeartbeats 4000000 in
theorem mm_e244_27 (E : mm_E) (cl : mm_F) (n : Nat) (a0 : Nat) (o1 : Option Value) (s0 : Int32) (h : mm_H) :
  mm_r244_27 E cl (n + 1) a0 o1 s0 h =
  (mm_br (s0 = (mm_i (-1))) (
  mm_cV [] (cl 233 [.ref a0, .int (mm_i 3)] h) fun h_1 =>
    some (.inl (some (.int s0)), h_1)) (
  some (.inl (some (.int s0)), h))) := (rfl)
-- Mod.readStage
noncomputable def mm_r245_0 (E : mm_E) (cl : mm_F) (n : Nat) (a0 : Nat) (h : mm_H) : mm_R := mm_run E cl mm_m245 n 0 [some (.ref a0), none, none, none] [] h
noncomputable def mm_r245_48 (E : mm_E) (cl : mm_F) (n : Nat) (a0 : Nat) (o1 : Option Value) (o2 : Option Value) (o3 : Option Value) (h : mm_H) : mm_R := mm_run E cl mm_m245 n 48 [some (.ref a0), o1, o2, o3] [] h
noncomputable def mm_r245_65 (E : mm_E) (cl : mm_F) (n : Nat) (a0 : Nat) (x1 : Int32) (x2 : Int32) (o3 : Option Value) (h : mm_H) : mm_R := mm_run E cl mm_m245 n 65 [some (.ref a0), some (.int x1), some (.int x2), o3] [] h
noncomputable def mm_r245_156 (E : mm_E) (cl : mm_F) (n : Nat) (a0 : Nat) (x1 : Int32) (x2 : Int32) (x3 : Int32) (h : mm_H) : mm_R := mm_run E cl mm_m245 n 156 [some (.ref a0), some (.int x1), some (.int x2), some (.int x3)] [] h
noncomputable def mm_r245_198 (E : mm_E) (cl : mm_F) (n : Nat) (a0 : Nat) (x1 : Int32) (x2 : Int32) (x3 : Int32) (h : mm_H) : mm_R := mm_run E cl mm_m245 n 198 [some (.ref a0), some (.int x1), some (.int x2), some (.int x3)] [] h
noncomputable def mm_r245_227 (E : mm_E) (cl : mm_F) (n : Nat) (a0 : Nat) (x1 : Int32) (x2 : Int32) (x3 : Int32) (h : mm_H) : mm_R := mm_run E cl mm_m245 n 227 [some (.ref a0), some (.int x1), some (.int x2), some (.int x3)] [] h
noncomputable def mm_r245_255 (E : mm_E) (cl : mm_F) (n : Nat) (a0 : Nat) (x1 : Int32) (x2 : Int32) (x3 : Int32) (h : mm_H) : mm_R := mm_run E cl mm_m245 n 255 [some (.ref a0), some (.int x1), some (.int x2), some (.int x3)] [] h
set_option maxRecDepth 20000 in
set_option maxHeartbeats 4000000 in
theorem mm_e245_0 (E : mm_E) (cl : mm_F) (n : Nat) (a0 : Nat) (h : mm_H) :
  mm_r245_0 E cl (n + 1) a0 h =
  mm_gR h a0 9 2 fun p_1 =>
  mm_rI E h p_1 (mm_i 0) fun v_2 =>
  (mm_br (v_2 = (mm_i 12)) (
  mm_cV [] (cl 233 [.ref a0, .int (mm_i 5)] h) fun h_10 =>
    mm_cV [] (cl 236 [.ref a0] h_10) fun h_11 =>
    mm_cI [] (cl 242 [.ref a0] h_11) fun v_13 h_12 =>
    (mm_br (v_13 = (mm_i 0)) (
    mm_cV [] (cl 233 [.ref a0, .int (mm_i 1)] h_12) fun h_17 =>
      mm_r245_48 E cl n a0 none none none h_17) (
    mm_cI [] (cl 243 [.ref a0] h_12) fun v_15 h_14 =>
      (mm_br (v_15 = (mm_i (-1))) (
      mm_r245_48 E cl n a0 none none none h_14) (
      mm_cV [] (cl 233 [.ref a0, .int (mm_i 3)] h_14) fun h_16 =>
        mm_r245_48 E cl n a0 none none none h_16))))) (
  mm_cV [] (cl 236 [.ref a0] h) fun h_3 =>
    mm_cI [] (cl 242 [.ref a0] h_3) fun v_5 h_4 =>
    (mm_br (v_5 = (mm_i 0)) (
    mm_cV [] (cl 233 [.ref a0, .int (mm_i 1)] h_4) fun h_9 =>
      mm_r245_48 E cl n a0 none none none h_9) (
    mm_cI [] (cl 243 [.ref a0] h_4) fun v_7 h_6 =>
      (mm_br (v_7 = (mm_i (-1))) (
      mm_r245_48 E cl n a0 none none none h_6) (
      mm_cV [] (cl 233 [.ref a0, .int (mm_i 3)] h_6) fun h_8 =>
        mm_r245_48 E cl n a0 none none none h_8)))))) := (rfl)
set_option maxRecDepth 20000 in
set_option maxHeartbeats 4000000 in
theorem mm_e245_48 (E : mm_E) (cl : mm_F) (n : Nat) (a0 : Nat) (o1 : Option Value) (o2 : Option Value) (o3 : Option Value) (h : mm_H) :
  mm_r245_48 E cl (n + 1) a0 o1 o2 o3 h =
  mm_gI h a0 9 32 fun v_1 =>
  (mm_br (v_1 = (mm_i 0)) (
  mm_gR h a0 9 2 fun p_2 =>
    mm_rI E h p_2 (mm_i 0) fun v_3 =>
    mm_r245_65 E cl n a0 v_3 (mm_i 0) o3 h) (
  some (.inl none, h))) := (rfl)
set_option maxRecDepth 20000 in
set_option maxHeartbeats 4000000 in
theorem mm_e245_65 (E : mm_E) (cl : mm_F) (n : Nat) (a0 : Nat) (x1 : Int32) (x2 : Int32) (o3 : Option Value) (h : mm_H) :
  mm_r245_65 E cl (n + 1) a0 x1 x2 o3 h =
  (mm_br ((mm_i 6) ≤ x2) (
  mm_cV [] (cl 236 [.ref a0] h) fun h_1 =>
    mm_cI [] (cl 239 [.ref a0, .int (mm_i 9)] h_1) fun v_3 h_2 =>
    mm_gR h_2 a0 9 2 fun p_4 =>
    mm_cI [] (cl 239 [.ref a0, .int (mm_i 999)] h_2) fun v_6 h_5 =>
    mm_cV [] (cl 153 [.ref p_4, .int x1, .int v_3, .int v_6] h_5) fun h_7 =>
    mm_r245_156 E cl n a0 x1 v_3 ((mm_i 3) + ((mm_i 7) * x1)) h_7) (
  mm_gR h a0 9 2 fun p_8 =>
    mm_gI h a0 9 30 fun v_9 =>
    mm_gI h a0 9 31 fun v_10 =>
    (mm_br (v_10 ≤ (v_9 + x2)) (
    mm_wI h p_8 (((mm_i 87) + ((mm_i 6) * x1)) + x2) (mm_i 0) fun h_11 =>
      mm_r245_65 E cl n a0 x1 (x2 + (mm_i 1)) o3 h_11) (
    mm_gR h a0 9 25 fun p_12 =>
      mm_gI h a0 9 30 fun v_13 =>
      mm_rI E h p_12 (v_13 + x2) fun v_14 =>
      mm_wI h p_8 (((mm_i 87) + ((mm_i 6) * x1)) + x2) (v_14 - (mm_i 96)) fun h_15 =>
      mm_r245_65 E cl n a0 x1 (x2 + (mm_i 1)) o3 h_15)))) := (rfl)
set_option maxRecDepth 20000 in
set_option maxHeartbeats 4000000 in
theorem mm_e245_156 (E : mm_E) (cl : mm_F) (n : Nat) (a0 : Nat) (x1 : Int32) (x2 : Int32) (x3 : Int32) (h : mm_H) :
  mm_r245_156 E cl (n + 1) a0 x1 x2 x3 h =
  mm_cI [] (cl 235 [.ref a0, .ref (E.2.2.1 26)] h) fun v_2 h_1 =>
  (mm_br (v_2 = (mm_i 0)) (
  mm_cI [] (cl 235 [.ref a0, .ref (E.2.2.1 27)] h_1) fun v_4 h_3 =>
    (mm_br (v_4 = (mm_i 0)) (
    mm_r245_227 E cl n a0 x1 x2 x3 h_3) (
    mm_cV [] (cl 236 [.ref a0] h_3) fun h_5 =>
      mm_r245_198 E cl n a0 x1 x2 x3 h_5))) (
  mm_cV [] (cl 236 [.ref a0] h_1) fun h_6 =>
    mm_gR h_6 a0 9 2 fun p_7 =>
    mm_cI [] (cl 239 [.ref a0, .int (mm_i 9)] h_6) fun v_9 h_8 =>
    mm_wI h_8 p_7 (x3 + (mm_i 2)) v_9 fun h_10 =>
    mm_cI [] (cl 235 [.ref a0, .ref (E.2.2.1 27)] h_10) fun v_12 h_11 =>
    (mm_br (v_12 = (mm_i 0)) (
    mm_r245_227 E cl n a0 x1 x2 x3 h_11) (
    mm_cV [] (cl 236 [.ref a0] h_11) fun h_13 =>
      mm_r245_198 E cl n a0 x1 x2 x3 h_13)))) := (rfl)
set_option maxRecDepth 20000 in
set_option maxHeartbeats 4000000 in
theorem mm_e245_198 (E : mm_E) (cl : mm_F) (n : Nat) (a0 : Nat) (x1 : Int32) (x2 : Int32) (x3 : Int32) (h : mm_H) :
  mm_r245_198 E cl (n + 1) a0 x1 x2 x3 h =
  mm_gR h a0 9 2 fun p_1 =>
  mm_cI [] (cl 239 [.ref a0, .int (mm_i 99)] h) fun v_3 h_2 =>
  mm_wI h_2 p_1 (x3 + (mm_i 3)) v_3 fun h_4 =>
  mm_gR h_4 a0 9 2 fun p_5 =>
  mm_cI [] (cl 239 [.ref a0, .int (mm_i 9999)] h_4) fun v_7 h_6 =>
  mm_wI h_6 p_5 (x3 + (mm_i 4)) v_7 fun h_8 =>
  mm_r245_227 E cl n a0 x1 x2 x3 h_8 := (rfl)
set_option maxRecDepth 20000 in
set_option maxHeartbeats 4000000 in
theorem mm_e245_227 (E : mm_E) (cl : mm_F) (n : Nat) (a0 : Nat) (x1 : Int32) (x2 : Int32) (x3 : Int32) (h : mm_H) :
  mm_r245_227 E cl (n + 1) a0 x1 x2 x3 h =
  mm_cI [] (cl 235 [.ref a0, .ref (E.2.2.1 28)] h) fun v_2 h_1 =>
  (mm_br (v_2 = (mm_i 0)) (
  mm_r245_255 E cl n a0 x1 x2 x3 h_1) (
  mm_cV [] (cl 236 [.ref a0] h_1) fun h_3 =>
    mm_gR h_3 a0 9 2 fun p_4 =>
    mm_cI [] (cl 239 [.ref a0, .int (mm_i 20)] h_3) fun v_6 h_5 =>
    mm_wI h_5 p_4 (x3 + (mm_i 5)) v_6 fun h_7 =>
    mm_r245_255 E cl n a0 x1 x2 x3 h_7)) := (rfl)
set_option maxRecDepth 20000 in
set_option maxHeartbeats 4000000 in
theorem mm_e245_255 (E : mm_E) (cl : mm_F) (n : Nat) (a0 : Nat) (x1 : Int32) (x2 : Int32) (x3 : Int32) (h : mm_H) :
  mm_r245_255 E cl (n + 1) a0 x1 x2 x3 h =
  mm_gR h a0 9 2 fun p_1 =>
  mm_rI E h p_1 (mm_i 0) fun v_2 =>
  mm_wI h p_1 (mm_i 0) (v_2 + (mm_i 1)) fun h_3 =>
  some (.inl none, h_3) := (rfl)
-- Mod.readSupply
noncomputable def mm_r246_0 (E : mm_E) (cl : mm_F) (n : Nat) (a0 : Nat) (h : mm_H) : mm_R := mm_run E cl mm_m246 n 0 [some (.ref a0), none, none] [] h
noncomputable def mm_r246_40 (E : mm_E) (cl : mm_F) (n : Nat) (a0 : Nat) (x1 : Int32) (x2 : Int32) (h : mm_H) : mm_R := mm_run E cl mm_m246 n 40 [some (.ref a0), some (.int x1), some (.int x2)] [] h
noncomputable def mm_r246_49 (E : mm_E) (cl : mm_F) (n : Nat) (a0 : Nat) (x1 : Int32) (x2 : Int32) (h : mm_H) : mm_R := mm_run E cl mm_m246 n 49 [some (.ref a0), some (.int x1), some (.int x2)] [] h
set_option maxRecDepth 20000 in
set_option maxHeartbeats 4000000 in
theorem mm_e246_0 (E : mm_E) (cl : mm_F) (n : Nat) (a0 : Nat) (h : mm_H) :
  mm_r246_0 E cl (n + 1) a0 h =
  mm_cV [] (cl 236 [.ref a0] h) fun h_1 =>
  mm_cI [] (cl 244 [.ref a0] h_1) fun v_3 h_2 =>
  mm_cV [] (cl 236 [.ref a0] h_2) fun h_4 =>
  mm_cI [] (cl 244 [.ref a0] h_4) fun v_6 h_5 =>
  mm_gI h_5 a0 9 32 fun v_7 =>
  (mm_br (v_7 = (mm_i 0)) (
  mm_gR h_5 a0 9 2 fun p_9 =>
    mm_cI [] (cl 161 [.ref p_9, .int v_3] h_5) fun v_11 h_10 =>
    mm_cI [] (cl 159 [.int v_11, .int v_6] h_10) fun v_13 h_12 =>
    (mm_br (v_13 = (mm_i 0)) (
    mm_cV [] (cl 236 [.ref a0] h_12) fun h_14 =>
      mm_r246_49 E cl n a0 v_3 v_6 h_14) (
    mm_r246_40 E cl n a0 v_3 v_6 h_12))) (
  mm_cV [] (cl 236 [.ref a0] h_5) fun h_8 =>
    mm_r246_49 E cl n a0 v_3 v_6 h_8)) := (rfl)
set_option maxRecDepth 20000 in
set_option maxHeartbeats 4000000 in
theorem mm_e246_40 (E : mm_E) (cl : mm_F) (n : Nat) (a0 : Nat) (x1 : Int32) (x2 : Int32) (h : mm_H) :
  mm_r246_40 E cl (n + 1) a0 x1 x2 h =
  mm_cV [] (cl 233 [.ref a0, .int (mm_i 4)] h) fun h_1 =>
  mm_cV [] (cl 236 [.ref a0] h_1) fun h_2 =>
  mm_r246_49 E cl n a0 x1 x2 h_2 := (rfl)
set_option maxRecDepth 20000 in
set_option maxHeartbeats 4000000 in
theorem mm_e246_49 (E : mm_E) (cl : mm_F) (n : Nat) (a0 : Nat) (x1 : Int32) (x2 : Int32) (h : mm_H) :
  mm_r246_49 E cl (n + 1) a0 x1 x2 h =
  mm_gI h a0 9 32 fun v_1 =>
  (mm_br (v_1 = (mm_i 0)) (
  mm_gR h a0 9 2 fun p_2 =>
    mm_cV [] (cl 154 [.ref p_2, .int x1, .int x2] h) fun h_3 =>
    some (.inl none, h_3)) (
  some (.inl none, h))) := (rfl)
-- Mod.readLine
noncomputable def mm_r247_0 (E : mm_E) (cl : mm_F) (n : Nat) (a0 : Nat) (h : mm_H) : mm_R := mm_run E cl mm_m247 n 0 [some (.ref a0)] [] h
noncomputable def mm_r247_69 (E : mm_E) (cl : mm_F) (n : Nat) (a0 : Nat) (h : mm_H) : mm_R := mm_run E cl mm_m247 n 69 [some (.ref a0)] [] h
set_option maxRecDepth 20000 in
set_option maxHeartbeats 4000000 in
theorem mm_e247_0 (E : mm_E) (cl : mm_F) (n : Nat) (a0 : Nat) (h : mm_H) :
  mm_r247_0 E cl (n + 1) a0 h =
  mm_cI [] (cl 235 [.ref a0, .ref (E.2.2.1 25)] h) fun v_2 h_1 =>
  (mm_br (v_2 = (mm_i 0)) (
  mm_cI [] (cl 235 [.ref a0, .ref (E.2.2.1 29)] h_1) fun v_4 h_3 =>
    (mm_br (v_4 = (mm_i 0)) (
    mm_cI [] (cl 235 [.ref a0, .ref (E.2.2.1 30)] h_3) fun v_6 h_5 =>
      (mm_br (v_6 = (mm_i 0)) (
      mm_cV [] (cl 233 [.ref a0, .int (mm_i 1)] h_5) fun h_7 =>
        mm_r247_69 E cl n a0 h_7) (
      mm_cV [] (cl 236 [.ref a0] h_5) fun h_8 =>
        mm_gR h_8 a0 9 2 fun p_9 =>
        mm_cI [] (cl 239 [.ref a0, .int (mm_i 400)] h_8) fun v_11 h_10 =>
        mm_wI h_10 p_9 (mm_i 1) v_11 fun h_12 =>
        mm_r247_69 E cl n a0 h_12))) (
    mm_cV [] (cl 246 [.ref a0] h_3) fun h_13 =>
      mm_r247_69 E cl n a0 h_13))) (
  mm_cV [] (cl 245 [.ref a0] h_1) fun h_14 =>
    mm_r247_69 E cl n a0 h_14)) := (rfl)
set_option maxRecDepth 20000 in
set_option maxHeartbeats 4000000 in
theorem mm_e247_69 (E : mm_E) (cl : mm_F) (n : Nat) (a0 : Nat) (h : mm_H) :
  mm_r247_69 E cl (n + 1) a0 h =
  mm_cV [] (cl 237 [.ref a0, .int (mm_i 59)] h) fun h_1 =>
  some (.inl none, h_1) := (rfl)
-- Mod.network
noncomputable def mm_r248_0 (E : mm_E) (cl : mm_F) (n : Nat) (a0 : Nat) (x1 : Int32) (h : mm_H) : mm_R := mm_run E cl mm_m248 n 0 [some (.ref a0), some (.int x1), none, none] [] h
noncomputable def mm_r248_35 (E : mm_E) (cl : mm_F) (n : Nat) (a0 : Nat) (x1 : Int32) (o2 : Option Value) (o3 : Option Value) (h : mm_H) : mm_R := mm_run E cl mm_m248 n 35 [some (.ref a0), some (.int x1), o2, o3] [] h
noncomputable def mm_r248_88 (E : mm_E) (cl : mm_F) (n : Nat) (a0 : Nat) (x1 : Int32) (x2 : Int32) (x3 : Int32) (h : mm_H) : mm_R := mm_run E cl mm_m248 n 88 [some (.ref a0), some (.int x1), some (.int x2), some (.int x3)] [] h
set_option maxRecDepth 20000 in
set_option maxHeartbeats 4000000 in
theorem mm_e248_0 (E : mm_E) (cl : mm_F) (n : Nat) (a0 : Nat) (x1 : Int32) (h : mm_H) :
  mm_r248_0 E cl (n + 1) a0 x1 h =
  mm_pF h a0 9 0 (.int (mm_i 0)) fun h_1 =>
  (mm_br (x1 < (mm_i 0)) (
  mm_cI [] (cl 146 [.ref a0, .int (mm_i 1)] h_1) fun v_3 h_2 =>
    some (.inl (some (.int v_3)), h_2)) (
  mm_gI h_1 a0 9 26 fun v_4 =>
    (mm_br (x1 ≤ v_4) (
    mm_gR h_1 a0 9 2 fun p_5 =>
      mm_cV [] (cl 149 [.ref p_5] h_1) fun h_6 =>
      mm_cV [] (cl 238 [.ref a0, .int x1] h_6) fun h_7 =>
      mm_r248_35 E cl n a0 x1 none none h_7) (
    mm_cI [] (cl 146 [.ref a0, .int (mm_i 1)] h_1) fun v_9 h_8 =>
      some (.inl (some (.int v_9)), h_8))))) := (rfl)
set_option maxRecDepth 20000 in
set_option maxHeartbeats 4000000 in
theorem mm_e248_35 (E : mm_E) (cl : mm_F) (n : Nat) (a0 : Nat) (x1 : Int32) (o2 : Option Value) (o3 : Option Value) (h : mm_H) :
  mm_r248_35 E cl (n + 1) a0 x1 o2 o3 h =
  mm_gI h a0 9 32 fun v_1 =>
  (mm_br (v_1 = (mm_i 0)) (
  mm_gI h a0 9 29 fun v_8 =>
    (mm_br (v_8 = (mm_i 0)) (
    mm_cI [] (cl 240 [.ref a0] h) fun v_10 h_9 =>
      (mm_br (v_10 = (mm_i 0)) (
      mm_gR h_9 a0 9 1 fun p_11 =>
        mm_gR h_9 a0 9 2 fun p_12 =>
        mm_cV [] (cl 225 [.ref p_11, .ref p_12] h_9) fun h_13 =>
        mm_pF h_13 a0 9 4 (.int (mm_i 0)) fun h_14 =>
        mm_r248_88 E cl n a0 x1 v_10 (mm_i 0) h_14) (
      some (.inl (some (.int ((mm_i (-10)) - v_10))), h_9)))) (
    mm_cV [] (cl 247 [.ref a0] h) fun h_15 =>
      mm_r248_35 E cl n a0 x1 o2 o3 h_15))) (
  mm_cI [] (cl 240 [.ref a0] h) fun v_3 h_2 =>
    (mm_br (v_3 = (mm_i 0)) (
    mm_gR h_2 a0 9 1 fun p_4 =>
      mm_gR h_2 a0 9 2 fun p_5 =>
      mm_cV [] (cl 225 [.ref p_4, .ref p_5] h_2) fun h_6 =>
      mm_pF h_6 a0 9 4 (.int (mm_i 0)) fun h_7 =>
      mm_r248_88 E cl n a0 x1 v_3 (mm_i 0) h_7) (
    some (.inl (some (.int ((mm_i (-10)) - v_3))), h_2))))) := (rfl)
set_option maxRecDepth 20000 in
set_option maxHeartbeats 4000000 in
theorem mm_e248_88 (E : mm_E) (cl : mm_F) (n : Nat) (a0 : Nat) (x1 : Int32) (x2 : Int32) (x3 : Int32) (h : mm_H) :
  mm_r248_88 E cl (n + 1) a0 x1 x2 x3 h =
  (mm_br ((mm_i 12) ≤ x3) (
  mm_cI [] (cl 150 [.ref a0] h) fun v_2 h_1 =>
    some (.inl (some (.int v_2)), h_1)) (
  mm_cV [] (cl 177 [.ref a0, .int x3] h) fun h_3 =>
    mm_r248_88 E cl n a0 x1 x2 (x3 + (mm_i 1)) h_3)) := (rfl)
-- Mod.toldOf
noncomputable def mm_r249_0 (E : mm_E) (cl : mm_F) (n : Nat) (a0 : Nat) (h : mm_H) : mm_R := mm_run E cl mm_m249 n 0 [some (.ref a0)] [] h
noncomputable def mm_r249_85 (E : mm_E) (cl : mm_F) (n : Nat) (a0 : Nat) (h : mm_H) : mm_R := mm_run E cl mm_m249 n 85 [some (.ref a0)] [] h
noncomputable def mm_r249_95 (E : mm_E) (cl : mm_F) (n : Nat) (a0 : Nat) (h : mm_H) : mm_R := mm_run E cl mm_m249 n 95 [some (.ref a0)] [] h
set_option maxRecDepth 20000 in
set_option maxHeartbeats 4000000 in
theorem mm_e249_0 (E : mm_E) (cl : mm_F) (n : Nat) (a0 : Nat) (h : mm_H) :
  mm_r249_0 E cl (n + 1) a0 h =
  mm_cI [] (cl 235 [.ref a0, .ref (E.2.2.1 37)] h) fun v_2 h_1 =>
  (mm_br (v_2 = (mm_i 0)) (
  mm_cI [] (cl 235 [.ref a0, .ref (E.2.2.1 38)] h_1) fun v_4 h_3 =>
    (mm_br (v_4 = (mm_i 0)) (
    mm_cI [] (cl 235 [.ref a0, .ref (E.2.2.1 39)] h_3) fun v_6 h_5 =>
      (mm_br (v_6 = (mm_i 0)) (
      mm_cI [] (cl 235 [.ref a0, .ref (E.2.2.1 26)] h_5) fun v_8 h_7 =>
        (mm_br (v_8 = (mm_i 0)) (
        mm_cI [] (cl 235 [.ref a0, .ref (E.2.2.1 40)] h_7) fun v_10 h_9 =>
          (mm_br (v_10 = (mm_i 0)) (
          mm_r249_95 E cl n a0 h_9) (
          mm_r249_85 E cl n a0 h_9))) (
        mm_gI h_7 a0 9 36 fun v_11 =>
          mm_cI [] (cl 152 [.ref a0, .int v_11, .int (mm_i 2)] h_7) fun v_13 h_12 =>
          some (.inl (some (.int v_13)), h_12)))) (
      mm_gI h_5 a0 9 36 fun v_14 =>
        mm_cI [] (cl 152 [.ref a0, .int v_14, .int (mm_i 1)] h_5) fun v_16 h_15 =>
        some (.inl (some (.int v_16)), h_15)))) (
    mm_gI h_3 a0 9 36 fun v_17 =>
      mm_cI [] (cl 152 [.ref a0, .int v_17, .int (mm_i 0)] h_3) fun v_19 h_18 =>
      some (.inl (some (.int v_19)), h_18)))) (
  mm_gI h_1 a0 9 36 fun v_20 =>
    some (.inl (some (.int v_20)), h_1))) := (rfl)
set_option maxRecDepth 20000 in
set_option maxHeartbeats 4000000 in
theorem mm_e249_85 (E : mm_E) (cl : mm_F) (n : Nat) (a0 : Nat) (h : mm_H) :
  mm_r249_85 E cl (n + 1) a0 h =
  mm_gI h a0 9 36 fun v_1 =>
  mm_cI [] (cl 152 [.ref a0, .int v_1, .int (mm_i 3)] h) fun v_3 h_2 =>
  some (.inl (some (.int v_3)), h_2) := (rfl)
set_option maxRecDepth 20000 in
set_option maxHeartbeats 4000000 in
theorem mm_e249_95 (E : mm_E) (cl : mm_F) (n : Nat) (a0 : Nat) (h : mm_H) :
  mm_r249_95 E cl (n + 1) a0 h =
  mm_cI [] (cl 235 [.ref a0, .ref (E.2.2.1 41)] h) fun v_2 h_1 =>
  (mm_br (v_2 = (mm_i 0)) (
  mm_cI [] (cl 235 [.ref a0, .ref (E.2.2.1 28)] h_1) fun v_4 h_3 =>
    (mm_br (v_4 = (mm_i 0)) (
    mm_cI [] (cl 235 [.ref a0, .ref (E.2.2.1 42)] h_3) fun v_6 h_5 =>
      (mm_br (v_6 = (mm_i 0)) (
      mm_cI [] (cl 250 [.ref a0] h_5) fun v_8 h_7 =>
        some (.inl (some (.int v_8)), h_7)) (
      mm_gI h_5 a0 9 36 fun v_9 =>
        mm_cI [] (cl 152 [.ref a0, .int v_9, .int (mm_i 6)] h_5) fun v_11 h_10 =>
        some (.inl (some (.int v_11)), h_10)))) (
    mm_gI h_3 a0 9 36 fun v_12 =>
      mm_cI [] (cl 152 [.ref a0, .int v_12, .int (mm_i 5)] h_3) fun v_14 h_13 =>
      some (.inl (some (.int v_14)), h_13)))) (
  mm_gI h_1 a0 9 36 fun v_15 =>
    mm_cI [] (cl 152 [.ref a0, .int v_15, .int (mm_i 4)] h_1) fun v_17 h_16 =>
    some (.inl (some (.int v_17)), h_16))) := (rfl)
-- Mod.madeOf
noncomputable def mm_r250_0 (E : mm_E) (cl : mm_F) (n : Nat) (a0 : Nat) (h : mm_H) : mm_R := mm_run E cl mm_m250 n 0 [some (.ref a0)] [] h
noncomputable def mm_r250_91 (E : mm_E) (cl : mm_F) (n : Nat) (a0 : Nat) (h : mm_H) : mm_R := mm_run E cl mm_m250 n 91 [some (.ref a0)] [] h
noncomputable def mm_r250_103 (E : mm_E) (cl : mm_F) (n : Nat) (a0 : Nat) (h : mm_H) : mm_R := mm_run E cl mm_m250 n 103 [some (.ref a0)] [] h
set_option maxRecDepth 20000 in
set_option maxHeartbeats 4000000 in
theorem mm_e250_0 (E : mm_E) (cl : mm_F) (n : Nat) (a0 : Nat) (h : mm_H) :
  mm_r250_0 E cl (n + 1) a0 h =
  mm_cI [] (cl 235 [.ref a0, .ref (E.2.2.1 43)] h) fun v_2 h_1 =>
  (mm_br (v_2 = (mm_i 0)) (
  mm_cI [] (cl 235 [.ref a0, .ref (E.2.2.1 44)] h_1) fun v_4 h_3 =>
    (mm_br (v_4 = (mm_i 0)) (
    mm_cI [] (cl 235 [.ref a0, .ref (E.2.2.1 45)] h_3) fun v_6 h_5 =>
      (mm_br (v_6 = (mm_i 0)) (
      mm_cI [] (cl 235 [.ref a0, .ref (E.2.2.1 46)] h_5) fun v_8 h_7 =>
        (mm_br (v_8 = (mm_i 0)) (
        mm_cI [] (cl 235 [.ref a0, .ref (E.2.2.1 47)] h_7) fun v_10 h_9 =>
          (mm_br (v_10 = (mm_i 0)) (
          mm_r250_103 E cl n a0 h_9) (
          mm_r250_91 E cl n a0 h_9))) (
        mm_gI h_7 a0 9 36 fun v_11 =>
          mm_cI [] (cl 157 [.ref a0, .int v_11] h_7) fun v_13 h_12 =>
          mm_cI [] (cl 160 [.int v_13] h_12) fun v_15 h_14 =>
          some (.inl (some (.int v_15)), h_14)))) (
      mm_gI h_5 a0 9 36 fun v_16 =>
        mm_cI [] (cl 163 [.ref a0, .int v_16] h_5) fun v_18 h_17 =>
        some (.inl (some (.int v_18)), h_17)))) (
    mm_gI h_3 a0 9 36 fun v_19 =>
      mm_cI [] (cl 162 [.ref a0, .int v_19, .int (mm_i 4)] h_3) fun v_21 h_20 =>
      some (.inl (some (.int v_21)), h_20)))) (
  mm_gI h_1 a0 9 36 fun v_22 =>
    mm_cI [] (cl 162 [.ref a0, .int v_22, .int (mm_i 3)] h_1) fun v_24 h_23 =>
    some (.inl (some (.int v_24)), h_23))) := (rfl)
set_option maxRecDepth 20000 in
set_option maxHeartbeats 4000000 in
theorem mm_e250_91 (E : mm_E) (cl : mm_F) (n : Nat) (a0 : Nat) (h : mm_H) :
  mm_r250_91 E cl (n + 1) a0 h =
  mm_gI h a0 9 36 fun v_1 =>
  mm_cI [] (cl 158 [.ref a0, .int v_1] h) fun v_3 h_2 =>
  mm_cI [] (cl 160 [.int v_3] h_2) fun v_5 h_4 =>
  some (.inl (some (.int v_5)), h_4) := (rfl)
set_option maxRecDepth 20000 in
set_option maxHeartbeats 4000000 in
theorem mm_e250_103 (E : mm_E) (cl : mm_F) (n : Nat) (a0 : Nat) (h : mm_H) :
  mm_r250_103 E cl (n + 1) a0 h =
  mm_cI [] (cl 251 [.ref a0] h) fun v_2 h_1 =>
  some (.inl (some (.int v_2)), h_1) := (rfl)
-- Mod.plannedOf
noncomputable def mm_r251_0 (E : mm_E) (cl : mm_F) (n : Nat) (a0 : Nat) (h : mm_H) : mm_R := mm_run E cl mm_m251 n 0 [some (.ref a0), none, none, none] [] h
noncomputable def mm_r251_67 (E : mm_E) (cl : mm_F) (n : Nat) (a0 : Nat) (x1 : Int32) (x2 : Int32) (x3 : Int32) (h : mm_H) : mm_R := mm_run E cl mm_m251 n 67 [some (.ref a0), some (.int x1), some (.int x2), some (.int x3)] [] h
noncomputable def mm_r251_76 (E : mm_E) (cl : mm_F) (n : Nat) (a0 : Nat) (x1 : Int32) (x2 : Int32) (x3 : Int32) (h : mm_H) : mm_R := mm_run E cl mm_m251 n 76 [some (.ref a0), some (.int x1), some (.int x2), some (.int x3)] [] h
noncomputable def mm_r251_99 (E : mm_E) (cl : mm_F) (n : Nat) (a0 : Nat) (x1 : Int32) (x2 : Int32) (x3 : Int32) (h : mm_H) : mm_R := mm_run E cl mm_m251 n 99 [some (.ref a0), some (.int x1), some (.int x2), some (.int x3)] [] h
set_option maxRecDepth 20000 in
set_option maxHeartbeats 4000000 in
theorem mm_e251_0 (E : mm_E) (cl : mm_F) (n : Nat) (a0 : Nat) (h : mm_H) :
  mm_r251_0 E cl (n + 1) a0 h =
  mm_cI [] (cl 235 [.ref a0, .ref (E.2.2.1 48)] h) fun v_2 h_1 =>
  (mm_br (v_2 = (mm_i 0)) (
  mm_cI [] (cl 235 [.ref a0, .ref (E.2.2.1 49)] h_1) fun v_4 h_3 =>
    (mm_br (v_4 = (mm_i 0)) (
    mm_cI [] (cl 235 [.ref a0, .ref (E.2.2.1 50)] h_3) fun v_6 h_5 =>
      mm_cI [] (cl 235 [.ref a0, .ref (E.2.2.1 51)] h_5) fun v_8 h_7 =>
      mm_cI [] (cl 235 [.ref a0, .ref (E.2.2.1 52)] h_7) fun v_10 h_9 =>
      (mm_br (v_6 = (mm_i 0)) (
      mm_r251_76 E cl n a0 v_6 v_8 v_10 h_9) (
      mm_r251_67 E cl n a0 v_6 v_8 v_10 h_9))) (
    mm_gI h_3 a0 9 36 fun v_11 =>
      mm_cI [] (cl 179 [.ref a0, .int v_11] h_3) fun v_13 h_12 =>
      some (.inl (some (.int v_13)), h_12)))) (
  mm_gR h_1 a0 9 5 fun p_14 =>
    mm_gI h_1 a0 9 36 fun v_15 =>
    mm_rI E h_1 p_14 v_15 fun v_16 =>
    some (.inl (some (.int v_16)), h_1))) := (rfl)
set_option maxRecDepth 20000 in
set_option maxHeartbeats 4000000 in
theorem mm_e251_67 (E : mm_E) (cl : mm_F) (n : Nat) (a0 : Nat) (x1 : Int32) (x2 : Int32) (x3 : Int32) (h : mm_H) :
  mm_r251_67 E cl (n + 1) a0 x1 x2 x3 h =
  mm_gI h a0 9 36 fun v_1 =>
  mm_cI [] (cl 180 [.ref a0, .int v_1] h) fun v_3 h_2 =>
  some (.inl (some (.int v_3)), h_2) := (rfl)
set_option maxRecDepth 20000 in
set_option maxHeartbeats 4000000 in
theorem mm_e251_76 (E : mm_E) (cl : mm_F) (n : Nat) (a0 : Nat) (x1 : Int32) (x2 : Int32) (x3 : Int32) (h : mm_H) :
  mm_r251_76 E cl (n + 1) a0 x1 x2 x3 h =
  (mm_br (x2 = (mm_i 0)) (
  (mm_br (x3 = (mm_i 0)) (
    mm_cI [] (cl 235 [.ref a0, .ref (E.2.2.1 53)] h) fun v_2 h_1 =>
      (mm_br (v_2 = (mm_i 0)) (
      mm_cV [] (cl 233 [.ref a0, .int (mm_i 1)] h_1) fun h_3 =>
        mm_r251_99 E cl n a0 x1 x2 x3 h_3) (
      mm_r251_99 E cl n a0 x1 x2 x3 h_1))) (
    mm_r251_99 E cl n a0 x1 x2 x3 h))) (
  mm_r251_99 E cl n a0 x1 x2 x3 h)) := (rfl)
set_option maxRecDepth 20000 in
set_option maxHeartbeats 4000000 in
theorem mm_e251_99 (E : mm_E) (cl : mm_F) (n : Nat) (a0 : Nat) (x1 : Int32) (x2 : Int32) (x3 : Int32) (h : mm_H) :
  mm_r251_99 E cl (n + 1) a0 x1 x2 x3 h =
  mm_gI h a0 9 32 fun v_1 =>
  (mm_br (v_1 = (mm_i 0)) (
  mm_gI h a0 9 36 fun v_2 =>
    mm_cI [] (cl 180 [.ref a0, .int v_2] h) fun v_4 h_3 =>
    (mm_br ((mm_i 0) ≤ v_4) (
    (mm_br (x2 = (mm_i 0)) (
      (mm_br (x3 = (mm_i 0)) (
        mm_gI h_3 a0 9 36 fun v_5 =>
          mm_cI [] (cl 152 [.ref a0, .int v_5, .int (mm_i 1)] h_3) fun v_7 h_6 =>
          mm_gI h_6 a0 9 36 fun v_8 =>
          mm_cI [] (cl 183 [.ref a0, .int v_8] h_6) fun v_10 h_9 =>
          some (.inl (some (.int (v_7 * v_10))), h_9)) (
        mm_gI h_3 a0 9 36 fun v_11 =>
          mm_gI h_3 a0 9 36 fun v_12 =>
          mm_cI [] (cl 180 [.ref a0, .int v_12] h_3) fun v_14 h_13 =>
          mm_cI [] (cl 166 [.ref a0, .int v_11, .int v_14] h_13) fun v_16 h_15 =>
          some (.inl (some (.int v_16)), h_15)))) (
      mm_gI h_3 a0 9 36 fun v_17 =>
        mm_cI [] (cl 183 [.ref a0, .int v_17] h_3) fun v_19 h_18 =>
        some (.inl (some (.int v_19)), h_18)))) (
    some (.inl (some (.int (mm_i (-1)))), h_3)))) (
  some (.inl (some (.int (mm_i (-1)))), h))) := (rfl)
-- Mod.goesIn
noncomputable def mm_r252_0 (E : mm_E) (cl : mm_F) (n : Nat) (a0 : Nat) (h : mm_H) : mm_R := mm_run E cl mm_m252 n 0 [some (.ref a0)] [] h
set_option maxRecDepth 20000 in
set_option maxHeartbeats 4000000 in
theorem mm_e252_0 (E : mm_E) (cl : mm_F) (n : Nat) (a0 : Nat) (h : mm_H) :
  mm_r252_0 E cl (n + 1) a0 h =
  mm_gI h a0 9 32 fun v_1 =>
  (mm_br (v_1 = (mm_i 0)) (
  mm_gI h a0 9 35 fun v_5 =>
    (mm_br (v_5 = (mm_i 6)) (
    mm_cV [] (cl 233 [.ref a0, .int (mm_i 3)] h) fun h_9 =>
      mm_gI h_9 a0 9 35 fun v_10 =>
      mm_pF h_9 a0 9 35 (.int (v_10 + (mm_i 1))) fun h_11 =>
      mm_cV [] (cl 236 [.ref a0] h_11) fun h_12 =>
      some (.inl none, h_12)) (
    mm_gI h a0 9 35 fun v_6 =>
      mm_pF h a0 9 35 (.int (v_6 + (mm_i 1))) fun h_7 =>
      mm_cV [] (cl 236 [.ref a0] h_7) fun h_8 =>
      some (.inl none, h_8)))) (
  mm_gI h a0 9 35 fun v_2 =>
    mm_pF h a0 9 35 (.int (v_2 + (mm_i 1))) fun h_3 =>
    mm_cV [] (cl 236 [.ref a0] h_3) fun h_4 =>
    some (.inl none, h_4))) := (rfl)
-- Mod.readPart
noncomputable def mm_r253_0 (E : mm_E) (cl : mm_F) (n : Nat) (a0 : Nat) (h : mm_H) : mm_R := mm_run E cl mm_m253 n 0 [some (.ref a0), none] [] h
noncomputable def mm_r253_49 (E : mm_E) (cl : mm_F) (n : Nat) (a0 : Nat) (x1 : Int32) (h : mm_H) : mm_R := mm_run E cl mm_m253 n 49 [some (.ref a0), some (.int x1)] [] h
set_option maxRecDepth 20000 in
set_option maxHeartbeats 4000000 in
theorem mm_e253_0 (E : mm_E) (cl : mm_F) (n : Nat) (a0 : Nat) (h : mm_H) :
  mm_r253_0 E cl (n + 1) a0 h =
  mm_gI h a0 9 32 fun v_1 =>
  (mm_br (v_1 = (mm_i 0)) (
  mm_gI h a0 9 29 fun v_2 =>
    (mm_br (v_2 = (mm_i 2)) (
    mm_cI [] (cl 239 [.ref a0, .int (mm_i 9999)] h) fun v_17 h_16 =>
      some (.inl (some (.int v_17)), h_16)) (
    mm_cI [] (cl 234 [.ref a0, .int (mm_i 40)] h) fun v_4 h_3 =>
      (mm_br (v_4 = (mm_i 0)) (
      mm_gI h_3 a0 9 37 fun v_5 =>
        (mm_br (v_5 = (mm_i 0)) (
        mm_cI [] (cl 254 [.ref a0] h_3) fun v_7 h_6 =>
          mm_cV [] (cl 236 [.ref a0] h_6) fun h_8 =>
          some (.inl (some (.int v_7)), h_8)) (
        mm_cI [] (cl 249 [.ref a0] h_3) fun v_10 h_9 =>
          mm_cV [] (cl 236 [.ref a0] h_9) fun h_11 =>
          some (.inl (some (.int v_10)), h_11)))) (
      mm_cV [] (cl 252 [.ref a0] h_3) fun h_12 =>
        mm_cI [] (cl 256 [.ref a0] h_12) fun v_14 h_13 =>
        mm_cV [] (cl 237 [.ref a0, .int (mm_i 41)] h_13) fun h_15 =>
        mm_r253_49 E cl n a0 v_14 h_15))))) (
  some (.inl (some (.int (mm_i 0))), h))) := (rfl)
set_option maxRecDepth 20000 in
set_option maxHeartbeats 4000000 in
theorem mm_e253_49 (E : mm_E) (cl : mm_F) (n : Nat) (a0 : Nat) (x1 : Int32) (h : mm_H) :
  mm_r253_49 E cl (n + 1) a0 x1 h =
  mm_gI h a0 9 35 fun v_1 =>
  mm_pF h a0 9 35 (.int (v_1 - (mm_i 1))) fun h_2 =>
  some (.inl (some (.int x1)), h_2) := (rfl)
-- Mod.lookAtWord
noncomputable def mm_r254_0 (E : mm_E) (cl : mm_F) (n : Nat) (a0 : Nat) (h : mm_H) : mm_R := mm_run E cl mm_m254 n 0 [some (.ref a0), none] [] h
noncomputable def mm_r254_50 (E : mm_E) (cl : mm_F) (n : Nat) (a0 : Nat) (o1 : Option Value) (h : mm_H) : mm_R := mm_run E cl mm_m254 n 50 [some (.ref a0), o1] [] h
noncomputable def mm_r254_105 (E : mm_E) (cl : mm_F) (n : Nat) (a0 : Nat) (o1 : Option Value) (s0 : Int32) (h : mm_H) : mm_R := mm_run E cl mm_m254 n 105 [some (.ref a0), o1] [.int s0] h
noncomputable def mm_r254_150 (E : mm_E) (cl : mm_F) (n : Nat) (a0 : Nat) (x1 : Int32) (h : mm_H) : mm_R := mm_run E cl mm_m254 n 150 [some (.ref a0), some (.int x1)] [] h
noncomputable def mm_r254_200 (E : mm_E) (cl : mm_F) (n : Nat) (a0 : Nat) (x1 : Int32) (h : mm_H) : mm_R := mm_run E cl mm_m254 n 200 [some (.ref a0), some (.int x1)] [] h
noncomputable def mm_r254_206 (E : mm_E) (cl : mm_F) (n : Nat) (a0 : Nat) (x1 : Int32) (h : mm_H) : mm_R := mm_run E cl mm_m254 n 206 [some (.ref a0), some (.int x1)] [] h
set_option maxRecDepth 20000 in
set_option maxHeartbeats 4000000 in
theorem mm_e254_0 (E : mm_E) (cl : mm_F) (n : Nat) (a0 : Nat) (h : mm_H) :
  mm_r254_0 E cl (n + 1) a0 h =
  mm_cI [] (cl 235 [.ref a0, .ref (E.2.2.1 37)] h) fun v_2 h_1 =>
  (mm_br (v_2 = (mm_i 0)) (
  mm_cI [] (cl 235 [.ref a0, .ref (E.2.2.1 38)] h_1) fun v_4 h_3 =>
    (mm_br (v_4 = (mm_i 0)) (
    mm_cI [] (cl 235 [.ref a0, .ref (E.2.2.1 39)] h_3) fun v_6 h_5 =>
      (mm_br (v_6 = (mm_i 0)) (
      mm_cI [] (cl 235 [.ref a0, .ref (E.2.2.1 26)] h_5) fun v_8 h_7 =>
        (mm_br (v_8 = (mm_i 0)) (
        mm_cI [] (cl 235 [.ref a0, .ref (E.2.2.1 40)] h_7) fun v_10 h_9 =>
          (mm_br (v_10 = (mm_i 0)) (
          mm_r254_50 E cl n a0 none h_9) (
          mm_r254_105 E cl n a0 none (mm_i 1) h_9))) (
        mm_r254_105 E cl n a0 none (mm_i 1) h_7))) (
      mm_r254_105 E cl n a0 none (mm_i 1) h_5))) (
    mm_r254_105 E cl n a0 none (mm_i 1) h_3))) (
  mm_r254_105 E cl n a0 none (mm_i 1) h_1)) := (rfl)
set_option maxRecDepth 20000 in
set_option maxHeartbeats 4000000 in
theorem mm_e254_50 (E : mm_E) (cl : mm_F) (n : Nat) (a0 : Nat) (o1 : Option Value) (h : mm_H) :
  mm_r254_50 E cl (n + 1) a0 o1 h =
  mm_cI [] (cl 235 [.ref a0, .ref (E.2.2.1 41)] h) fun v_2 h_1 =>
  (mm_br (v_2 = (mm_i 0)) (
  mm_cI [] (cl 235 [.ref a0, .ref (E.2.2.1 28)] h_1) fun v_4 h_3 =>
    (mm_br (v_4 = (mm_i 0)) (
    mm_cI [] (cl 235 [.ref a0, .ref (E.2.2.1 42)] h_3) fun v_6 h_5 =>
      (mm_br (v_6 = (mm_i 0)) (
      mm_cI [] (cl 235 [.ref a0, .ref (E.2.2.1 43)] h_5) fun v_8 h_7 =>
        (mm_br (v_8 = (mm_i 0)) (
        mm_cI [] (cl 235 [.ref a0, .ref (E.2.2.1 44)] h_7) fun v_10 h_9 =>
          (mm_br (v_10 = (mm_i 0)) (
          mm_r254_105 E cl n a0 o1 (mm_i 0) h_9) (
          mm_r254_105 E cl n a0 o1 (mm_i 1) h_9))) (
        mm_r254_105 E cl n a0 o1 (mm_i 1) h_7))) (
      mm_r254_105 E cl n a0 o1 (mm_i 1) h_5))) (
    mm_r254_105 E cl n a0 o1 (mm_i 1) h_3))) (
  mm_r254_105 E cl n a0 o1 (mm_i 1) h_1)) := (rfl)
set_option maxRecDepth 20000 in
set_option maxHeartbeats 4000000 in
theorem mm_e254_105 (E : mm_E) (cl : mm_F) (n : Nat) (a0 : Nat) (o1 : Option Value) (s0 : Int32) (h : mm_H) :
  mm_r254_105 E cl (n + 1) a0 o1 s0 h =
  (mm_br (s0 = (mm_i 0)) (
  mm_cI [] (cl 235 [.ref a0, .ref (E.2.2.1 45)] h) fun v_2 h_1 =>
    (mm_br (v_2 = (mm_i 0)) (
    mm_cI [] (cl 235 [.ref a0, .ref (E.2.2.1 46)] h_1) fun v_4 h_3 =>
      (mm_br (v_4 = (mm_i 0)) (
      mm_cI [] (cl 235 [.ref a0, .ref (E.2.2.1 47)] h_3) fun v_6 h_5 =>
        (mm_br (v_6 = (mm_i 0)) (
        mm_cI [] (cl 235 [.ref a0, .ref (E.2.2.1 48)] h_5) fun v_8 h_7 =>
          (mm_br (v_8 = (mm_i 0)) (
          mm_r254_150 E cl n a0 s0 h_7) (
          mm_r254_200 E cl n a0 s0 h_7))) (
        mm_r254_200 E cl n a0 s0 h_5))) (
      mm_r254_200 E cl n a0 s0 h_3))) (
    mm_r254_200 E cl n a0 s0 h_1))) (
  mm_r254_200 E cl n a0 s0 h)) := (rfl)
set_option maxRecDepth 20000 in
set_option maxHeartbeats 4000000 in
theorem mm_e254_150 (E : mm_E) (cl : mm_F) (n : Nat) (a0 : Nat) (x1 : Int32) (h : mm_H) :
  mm_r254_150 E cl (n + 1) a0 x1 h =
  mm_cI [] (cl 235 [.ref a0, .ref (E.2.2.1 49)] h) fun v_2 h_1 =>
  (mm_br (v_2 = (mm_i 0)) (
  mm_cI [] (cl 235 [.ref a0, .ref (E.2.2.1 50)] h_1) fun v_4 h_3 =>
    (mm_br (v_4 = (mm_i 0)) (
    mm_cI [] (cl 235 [.ref a0, .ref (E.2.2.1 51)] h_3) fun v_6 h_5 =>
      (mm_br (v_6 = (mm_i 0)) (
      mm_cI [] (cl 235 [.ref a0, .ref (E.2.2.1 52)] h_5) fun v_8 h_7 =>
        (mm_br (v_8 = (mm_i 0)) (
        mm_cI [] (cl 235 [.ref a0, .ref (E.2.2.1 53)] h_7) fun v_10 h_9 =>
          (mm_br (v_10 = (mm_i 0)) (
          mm_r254_206 E cl n a0 (mm_i 0) h_9) (
          mm_r254_200 E cl n a0 x1 h_9))) (
        mm_r254_200 E cl n a0 x1 h_7))) (
      mm_r254_200 E cl n a0 x1 h_5))) (
    mm_r254_200 E cl n a0 x1 h_3))) (
  mm_r254_200 E cl n a0 x1 h_1)) := (rfl)
set_option maxRecDepth 20000 in
set_option maxHeartbeats 4000000 in
theorem mm_e254_200 (E : mm_E) (cl : mm_F) (n : Nat) (a0 : Nat) (x1 : Int32) (h : mm_H) :
  mm_r254_200 E cl (n + 1) a0 x1 h =
  mm_r254_206 E cl n a0 (mm_i 1) h := (rfl)
set_option maxRecDepth 20000 in
set_option maxHeartbeats 4000000 in
theorem mm_e254_206 (E : mm_E) (cl : mm_F) (n : Nat) (a0 : Nat) (x1 : Int32) (h : mm_H) :
  mm_r254_206 E cl (n + 1) a0 x1 h =
  (mm_br (x1 = (mm_i 0)) (
  mm_cV [] (cl 233 [.ref a0, .int (mm_i 1)] h) fun h_1 =>
    some (.inl (some (.int (mm_i 0))), h_1)) (
  some (.inl (some (.int (mm_i 0))), h))) := (rfl)
-- Mod.readProduct
noncomputable def mm_r255_0 (E : mm_E) (cl : mm_F) (n : Nat) (a0 : Nat) (h : mm_H) : mm_R := mm_run E cl mm_m255 n 0 [some (.ref a0), none] [] h
noncomputable def mm_r255_5 (E : mm_E) (cl : mm_F) (n : Nat) (a0 : Nat) (x1 : Int32) (h : mm_H) : mm_R := mm_run E cl mm_m255 n 5 [some (.ref a0), some (.int x1)] [] h
set_option maxRecDepth 20000 in
set_option maxHeartbeats 4000000 in
theorem mm_e255_0 (E : mm_E) (cl : mm_F) (n : Nat) (a0 : Nat) (h : mm_H) :
  mm_r255_0 E cl (n + 1) a0 h =
  mm_cI [] (cl 253 [.ref a0] h) fun v_2 h_1 =>
  mm_r255_5 E cl n a0 v_2 h_1 := (rfl)
set_option maxRecDepth 20000 in
set_option maxHeartbeats 4000000 in
theorem mm_e255_5 (E : mm_E) (cl : mm_F) (n : Nat) (a0 : Nat) (x1 : Int32) (h : mm_H) :
  mm_r255_5 E cl (n + 1) a0 x1 h =
  mm_cI [] (cl 234 [.ref a0, .int (mm_i 42)] h) fun v_2 h_1 =>
  (mm_br (v_2 = (mm_i 0)) (
  some (.inl (some (.int x1)), h_1)) (
  mm_cV [] (cl 236 [.ref a0] h_1) fun h_3 =>
    mm_cI [] (cl 253 [.ref a0] h_3) fun v_5 h_4 =>
    mm_r255_5 E cl n a0 (x1 * v_5) h_4)) := (rfl)
-- Mod.readSum
noncomputable def mm_r256_0 (E : mm_E) (cl : mm_F) (n : Nat) (a0 : Nat) (h : mm_H) : mm_R := mm_run E cl mm_m256 n 0 [some (.ref a0), none, none, none] [] h
noncomputable def mm_r256_5 (E : mm_E) (cl : mm_F) (n : Nat) (a0 : Nat) (x1 : Int32) (o2 : Option Value) (o3 : Option Value) (h : mm_H) : mm_R := mm_run E cl mm_m256 n 5 [some (.ref a0), some (.int x1), o2, o3] [] h
noncomputable def mm_r256_39 (E : mm_E) (cl : mm_F) (n : Nat) (a0 : Nat) (x1 : Int32) (x2 : Int32) (x3 : Int32) (h : mm_H) : mm_R := mm_run E cl mm_m256 n 39 [some (.ref a0), some (.int x1), some (.int x2), some (.int x3)] [] h
set_option maxRecDepth 20000 in
set_option maxHeartbeats 4000000 in
theorem mm_e256_0 (E : mm_E) (cl : mm_F) (n : Nat) (a0 : Nat) (h : mm_H) :
  mm_r256_0 E cl (n + 1) a0 h =
  mm_cI [] (cl 255 [.ref a0] h) fun v_2 h_1 =>
  mm_r256_5 E cl n a0 v_2 none none h_1 := (rfl)
set_option maxRecDepth 20000 in
set_option maxHeartbeats 4000000 in
theorem mm_e256_5 (E : mm_E) (cl : mm_F) (n : Nat) (a0 : Nat) (x1 : Int32) (o2 : Option Value) (o3 : Option Value) (h : mm_H) :
  mm_r256_5 E cl (n + 1) a0 x1 o2 o3 h =
  mm_cI [] (cl 234 [.ref a0, .int (mm_i 43)] h) fun v_2 h_1 =>
  (mm_br (v_2 = (mm_i 0)) (
  mm_cI [] (cl 234 [.ref a0, .int (mm_i 45)] h_1) fun v_9 h_8 =>
    (mm_br (v_9 = (mm_i 0)) (
    some (.inl (some (.int x1)), h_8)) (
    mm_cI [] (cl 234 [.ref a0, .int (mm_i 43)] h_8) fun v_11 h_10 =>
      mm_cV [] (cl 236 [.ref a0] h_10) fun h_12 =>
      mm_cI [] (cl 255 [.ref a0] h_12) fun v_14 h_13 =>
      mm_r256_39 E cl n a0 x1 v_11 v_14 h_13))) (
  mm_cI [] (cl 234 [.ref a0, .int (mm_i 43)] h_1) fun v_4 h_3 =>
    mm_cV [] (cl 236 [.ref a0] h_3) fun h_5 =>
    mm_cI [] (cl 255 [.ref a0] h_5) fun v_7 h_6 =>
    mm_r256_39 E cl n a0 x1 v_4 v_7 h_6)) := (rfl)
set_option maxRecDepth 20000 in
set_option maxHeartbeats 4000000 in
theorem mm_e256_39 (E : mm_E) (cl : mm_F) (n : Nat) (a0 : Nat) (x1 : Int32) (x2 : Int32) (x3 : Int32) (h : mm_H) :
  mm_r256_39 E cl (n + 1) a0 x1 x2 x3 h =
  (mm_br (x2 = (mm_i 0)) (
  mm_r256_5 E cl n a0 (x1 - x3) (some (.int x2)) (some (.int x3)) h) (
  mm_r256_5 E cl n a0 (x1 + x3) (some (.int x2)) (some (.int x3)) h)) := (rfl)
-- Mod.readFact
noncomputable def mm_r257_0 (E : mm_E) (cl : mm_F) (n : Nat) (a0 : Nat) (h : mm_H) : mm_R := mm_run E cl mm_m257 n 0 [some (.ref a0), none, none, none] [] h
noncomputable def mm_r257_63 (E : mm_E) (cl : mm_F) (n : Nat) (a0 : Nat) (x1 : Int32) (o2 : Option Value) (o3 : Option Value) (h : mm_H) : mm_R := mm_run E cl mm_m257 n 63 [some (.ref a0), some (.int x1), o2, o3] [] h
noncomputable def mm_r257_106 (E : mm_E) (cl : mm_F) (n : Nat) (a0 : Nat) (x1 : Int32) (o2 : Option Value) (o3 : Option Value) (h : mm_H) : mm_R := mm_run E cl mm_m257 n 106 [some (.ref a0), some (.int x1), o2, o3] [] h
noncomputable def mm_r257_121 (E : mm_E) (cl : mm_F) (n : Nat) (a0 : Nat) (x1 : Int32) (x2 : Int32) (o3 : Option Value) (h : mm_H) : mm_R := mm_run E cl mm_m257 n 121 [some (.ref a0), some (.int x1), some (.int x2), o3] [] h
noncomputable def mm_r257_131 (E : mm_E) (cl : mm_F) (n : Nat) (a0 : Nat) (x1 : Int32) (x2 : Int32) (o3 : Option Value) (h : mm_H) : mm_R := mm_run E cl mm_m257 n 131 [some (.ref a0), some (.int x1), some (.int x2), o3] [] h
set_option maxRecDepth 20000 in
set_option maxHeartbeats 4000000 in
theorem mm_e257_0 (E : mm_E) (cl : mm_F) (n : Nat) (a0 : Nat) (h : mm_H) :
  mm_r257_0 E cl (n + 1) a0 h =
  mm_cI [] (cl 235 [.ref a0, .ref (E.2.2.1 36)] h) fun v_2 h_1 =>
  (mm_br (v_2 = (mm_i 0)) (
  mm_cI [] (cl 234 [.ref a0, .int (mm_i 123)] h_1) fun v_4 h_3 =>
    (mm_br (v_4 = (mm_i 0)) (
    mm_cI [] (cl 256 [.ref a0] h_3) fun v_6 h_5 =>
      mm_cI [] (cl 234 [.ref a0, .int (mm_i 60)] h_5) fun v_8 h_7 =>
      (mm_br (v_8 = (mm_i 0)) (
      mm_cI [] (cl 234 [.ref a0, .int (mm_i 61)] h_7) fun v_10 h_9 =>
        (mm_br (v_10 = (mm_i 0)) (
        mm_r257_106 E cl n a0 v_6 none none h_9) (
        mm_r257_121 E cl n a0 v_6 (mm_i 0) none h_9))) (
      mm_r257_121 E cl n a0 v_6 (mm_i (-1)) none h_7))) (
    mm_cV [] (cl 252 [.ref a0] h_3) fun h_11 =>
      mm_cI [] (cl 259 [.ref a0] h_11) fun v_13 h_12 =>
      mm_cV [] (cl 237 [.ref a0, .int (mm_i 125)] h_12) fun h_14 =>
      mm_r257_63 E cl n a0 v_13 none none h_14))) (
  mm_cV [] (cl 252 [.ref a0] h_1) fun h_15 =>
    mm_cI [] (cl 257 [.ref a0] h_15) fun v_17 h_16 =>
    mm_gI h_16 a0 9 35 fun v_18 =>
    mm_pF h_16 a0 9 35 (.int (v_18 - (mm_i 1))) fun h_19 =>
    (mm_br (v_17 = (mm_i 0)) (
    (mm_bz (mm_i 1) (some (.inl (some (.int (mm_i 1))), h_19)))) (
    (mm_bz (mm_i 0) (some (.inl (some (.int (mm_i 0))), h_19))))))) := (rfl)
set_option maxRecDepth 20000 in
set_option maxHeartbeats 4000000 in
theorem mm_e257_63 (E : mm_E) (cl : mm_F) (n : Nat) (a0 : Nat) (x1 : Int32) (o2 : Option Value) (o3 : Option Value) (h : mm_H) :
  mm_r257_63 E cl (n + 1) a0 x1 o2 o3 h =
  mm_gI h a0 9 35 fun v_1 =>
  mm_pF h a0 9 35 (.int (v_1 - (mm_i 1))) fun h_2 =>
  (mm_bz x1 (some (.inl (some (.int x1)), h_2))) := (rfl)
set_option maxRecDepth 20000 in
set_option maxHeartbeats 4000000 in
theorem mm_e257_106 (E : mm_E) (cl : mm_F) (n : Nat) (a0 : Nat) (x1 : Int32) (o2 : Option Value) (o3 : Option Value) (h : mm_H) :
  mm_r257_106 E cl (n + 1) a0 x1 o2 o3 h =
  mm_cI [] (cl 234 [.ref a0, .int (mm_i 62)] h) fun v_2 h_1 =>
  (mm_br (v_2 = (mm_i 0)) (
  mm_r257_121 E cl n a0 x1 (mm_i 2) o3 h_1) (
  mm_r257_121 E cl n a0 x1 (mm_i 1) o3 h_1)) := (rfl)
set_option maxRecDepth 20000 in
set_option maxHeartbeats 4000000 in
theorem mm_e257_121 (E : mm_E) (cl : mm_F) (n : Nat) (a0 : Nat) (x1 : Int32) (x2 : Int32) (o3 : Option Value) (h : mm_H) :
  mm_r257_121 E cl (n + 1) a0 x1 x2 o3 h =
  (mm_br (x2 = (mm_i 2)) (
  mm_cV [] (cl 233 [.ref a0, .int (mm_i 1)] h) fun h_1 =>
    mm_r257_131 E cl n a0 x1 x2 o3 h_1) (
  mm_r257_131 E cl n a0 x1 x2 o3 h)) := (rfl)
set_option maxRecDepth 20000 in
set_option maxHeartbeats 4000000 in
theorem mm_e257_131 (E : mm_E) (cl : mm_F) (n : Nat) (a0 : Nat) (x1 : Int32) (x2 : Int32) (o3 : Option Value) (h : mm_H) :
  mm_r257_131 E cl (n + 1) a0 x1 x2 o3 h =
  mm_cV [] (cl 236 [.ref a0] h) fun h_1 =>
  mm_cI [] (cl 256 [.ref a0] h_1) fun v_3 h_2 =>
  (mm_br ((mm_i 0) ≤ x2) (
  (mm_br (x2 = (mm_i 0)) (
    (mm_br (x1 = v_3) (
      (mm_bz (mm_i 1) (some (.inl (some (.int (mm_i 1))), h_2)))) (
      (mm_bz (mm_i 0) (some (.inl (some (.int (mm_i 0))), h_2)))))) (
    (mm_br (x1 ≤ v_3) (
      (mm_bz (mm_i 0) (some (.inl (some (.int (mm_i 0))), h_2)))) (
      (mm_bz (mm_i 1) (some (.inl (some (.int (mm_i 1))), h_2)))))))) (
  (mm_br (v_3 ≤ x1) (
    (mm_bz (mm_i 0) (some (.inl (some (.int (mm_i 0))), h_2)))) (
    (mm_bz (mm_i 1) (some (.inl (some (.int (mm_i 1))), h_2))))))) := (rfl)
-- Mod.readBoth
noncomputable def mm_r258_0 (E : mm_E) (cl : mm_F) (n : Nat) (a0 : Nat) (h : mm_H) : mm_R := mm_run E cl mm_m258 n 0 [some (.ref a0), none, none] [] h
noncomputable def mm_r258_5 (E : mm_E) (cl : mm_F) (n : Nat) (a0 : Nat) (x1 : Int32) (o2 : Option Value) (h : mm_H) : mm_R := mm_run E cl mm_m258 n 5 [some (.ref a0), some (.int x1), o2] [] h
set_option maxRecDepth 20000 in
set_option maxHeartbeats 4000000 in
theorem mm_e258_0 (E : mm_E) (cl : mm_F) (n : Nat) (a0 : Nat) (h : mm_H) :
  mm_r258_0 E cl (n + 1) a0 h =
  mm_cI [] (cl 257 [.ref a0] h) fun v_2 h_1 =>
  mm_r258_5 E cl n a0 v_2 none h_1 := (rfl)
set_option maxRecDepth 20000 in
set_option maxHeartbeats 4000000 in
theorem mm_e258_5 (E : mm_E) (cl : mm_F) (n : Nat) (a0 : Nat) (x1 : Int32) (o2 : Option Value) (h : mm_H) :
  mm_r258_5 E cl (n + 1) a0 x1 o2 h =
  mm_cI [] (cl 235 [.ref a0, .ref (E.2.2.1 54)] h) fun v_2 h_1 =>
  (mm_br (v_2 = (mm_i 0)) (
  (mm_bz x1 (some (.inl (some (.int x1)), h_1)))) (
  mm_cV [] (cl 236 [.ref a0] h_1) fun h_3 =>
    mm_cI [] (cl 257 [.ref a0] h_3) fun v_5 h_4 =>
    (mm_br (x1 = (mm_i 0)) (
    mm_r258_5 E cl n a0 (mm_i 0) (some (.int v_5)) h_4) (
    (mm_br (v_5 = (mm_i 0)) (
      mm_r258_5 E cl n a0 (mm_i 0) (some (.int v_5)) h_4) (
      mm_r258_5 E cl n a0 (mm_i 1) (some (.int v_5)) h_4)))))) := (rfl)
-- Mod.readTest
noncomputable def mm_r259_0 (E : mm_E) (cl : mm_F) (n : Nat) (a0 : Nat) (h : mm_H) : mm_R := mm_run E cl mm_m259 n 0 [some (.ref a0), none, none] [] h
noncomputable def mm_r259_5 (E : mm_E) (cl : mm_F) (n : Nat) (a0 : Nat) (x1 : Int32) (o2 : Option Value) (h : mm_H) : mm_R := mm_run E cl mm_m259 n 5 [some (.ref a0), some (.int x1), o2] [] h
set_option maxRecDepth 20000 in
set_option maxHeartbeats 4000000 in
theorem mm_e259_0 (E : mm_E) (cl : mm_F) (n : Nat) (a0 : Nat) (h : mm_H) :
  mm_r259_0 E cl (n + 1) a0 h =
  mm_cI [] (cl 258 [.ref a0] h) fun v_2 h_1 =>
  mm_r259_5 E cl n a0 v_2 none h_1 := (rfl)
set_option maxRecDepth 20000 in
set_option maxHeartbeats 4000000 in
theorem mm_e259_5 (E : mm_E) (cl : mm_F) (n : Nat) (a0 : Nat) (x1 : Int32) (o2 : Option Value) (h : mm_H) :
  mm_r259_5 E cl (n + 1) a0 x1 o2 h =
  mm_cI [] (cl 235 [.ref a0, .ref (E.2.2.1 55)] h) fun v_2 h_1 =>
  (mm_br (v_2 = (mm_i 0)) (
  (mm_bz x1 (some (.inl (some (.int x1)), h_1)))) (
  mm_cV [] (cl 236 [.ref a0] h_1) fun h_3 =>
    mm_cI [] (cl 258 [.ref a0] h_3) fun v_5 h_4 =>
    (mm_br (x1 = (mm_i 0)) (
    (mm_br (v_5 = (mm_i 0)) (
      mm_r259_5 E cl n a0 (mm_i 0) (some (.int v_5)) h_4) (
      mm_r259_5 E cl n a0 (mm_i 1) (some (.int v_5)) h_4))) (
    mm_r259_5 E cl n a0 (mm_i 1) (some (.int v_5)) h_4)))) := (rfl)
-- Mod.readAll
noncomputable def mm_r260_0 (E : mm_E) (cl : mm_F) (n : Nat) (a0 : Nat) (x1 : Int32) (x2 : Int32) (x3 : Int32) (h : mm_H) : mm_R := mm_run E cl mm_m260 n 0 [some (.ref a0), some (.int x1), some (.int x2), some (.int x3), none] [] h
noncomputable def mm_r260_73 (E : mm_E) (cl : mm_F) (n : Nat) (a0 : Nat) (x1 : Int32) (x2 : Int32) (x3 : Int32) (o4 : Option Value) (b0 : Nat) (s1 : Int32) (h : mm_H) : mm_R := mm_run E cl mm_m260 n 73 [some (.ref a0), some (.int x1), some (.int x2), some (.int x3), o4] [.int s1, .ref b0] h
noncomputable def mm_r260_99 (E : mm_E) (cl : mm_F) (n : Nat) (a0 : Nat) (x1 : Int32) (x2 : Int32) (x3 : Int32) (o4 : Option Value) (h : mm_H) : mm_R := mm_run E cl mm_m260 n 99 [some (.ref a0), some (.int x1), some (.int x2), some (.int x3), o4] [] h
noncomputable def mm_r260_130 (E : mm_E) (cl : mm_F) (n : Nat) (a0 : Nat) (x1 : Int32) (x2 : Int32) (x3 : Int32) (o4 : Option Value) (s0 : Int32) (h : mm_H) : mm_R := mm_run E cl mm_m260 n 130 [some (.ref a0), some (.int x1), some (.int x2), some (.int x3), o4] [.int s0] h
set_option maxRecDepth 20000 in
set_option maxHeartbeats 4000000 in
theorem mm_e260_0 (E : mm_E) (cl : mm_F) (n : Nat) (a0 : Nat) (x1 : Int32) (x2 : Int32) (x3 : Int32) (h : mm_H) :
  mm_r260_0 E cl (n + 1) a0 x1 x2 x3 h =
  mm_pF h a0 9 36 (.int x2) fun h_1 =>
  (mm_bz x3 (
  mm_pF h_1 a0 9 37 (.int x3) fun h_2 =>
  mm_cV [] (cl 238 [.ref a0, .int x1] h_2) fun h_3 =>
  mm_cI [] (cl 235 [.ref a0, .ref (E.2.2.1 31)] h_3) fun v_5 h_4 =>
  (mm_br (v_5 = (mm_i 0)) (
  mm_cI [] (cl 235 [.ref a0, .ref (E.2.2.1 32)] h_4) fun v_7 h_6 =>
    (mm_br (v_7 = (mm_i 0)) (
    mm_cI [] (cl 235 [.ref a0, .ref (E.2.2.1 33)] h_6) fun v_9 h_8 =>
      (mm_br (v_9 = (mm_i 0)) (
      mm_cI [] (cl 235 [.ref a0, .ref (E.2.2.1 34)] h_8) fun v_11 h_10 =>
        (mm_br (v_11 = (mm_i 0)) (
        mm_r260_73 E cl n a0 x1 x2 x3 none a0 (mm_i 4) h_10) (
        mm_r260_73 E cl n a0 x1 x2 x3 none a0 (mm_i 3) h_10))) (
      mm_r260_73 E cl n a0 x1 x2 x3 none a0 (mm_i 2) h_8))) (
    mm_r260_73 E cl n a0 x1 x2 x3 none a0 (mm_i 1) h_6))) (
  mm_r260_73 E cl n a0 x1 x2 x3 none a0 (mm_i 0) h_4)))) := (rfl)
set_option maxRecDepth 20000 in
set_option maxHeartbeats 4000000 in
theorem mm_e260_73 (E : mm_E) (cl : mm_F) (n : Nat) (a0 : Nat) (x1 : Int32) (x2 : Int32) (x3 : Int32) (o4 : Option Value) (b0 : Nat) (s1 : Int32) (h : mm_H) :
  mm_r260_73 E cl (n + 1) a0 x1 x2 x3 o4 b0 s1 h =
  mm_pF h b0 9 38 (.int s1) fun h_1 =>
  mm_gI h_1 a0 9 38 fun v_2 =>
  (mm_br (v_2 = (mm_i 4)) (
  mm_cI [] (cl 235 [.ref a0, .ref (E.2.2.1 35)] h_1) fun v_4 h_3 =>
    (mm_br (v_4 = (mm_i 0)) (
    mm_cV [] (cl 233 [.ref a0, .int (mm_i 1)] h_3) fun h_5 =>
      mm_r260_99 E cl n a0 x1 x2 x3 o4 h_5) (
    mm_r260_99 E cl n a0 x1 x2 x3 o4 h_3))) (
  mm_r260_99 E cl n a0 x1 x2 x3 o4 h_1)) := (rfl)
set_option maxRecDepth 20000 in
set_option maxHeartbeats 4000000 in
theorem mm_e260_99 (E : mm_E) (cl : mm_F) (n : Nat) (a0 : Nat) (x1 : Int32) (x2 : Int32) (x3 : Int32) (o4 : Option Value) (h : mm_H) :
  mm_r260_99 E cl (n + 1) a0 x1 x2 x3 o4 h =
  mm_cV [] (cl 236 [.ref a0] h) fun h_1 =>
  mm_gI h_1 a0 9 38 fun v_2 =>
  (mm_br ((mm_i 2) ≤ v_2) (
  mm_cI [] (cl 256 [.ref a0] h_1) fun v_4 h_3 =>
    mm_r260_130 E cl n a0 x1 x2 x3 o4 v_4 h_3) (
  mm_cI [] (cl 259 [.ref a0] h_1) fun v_6 h_5 =>
    (mm_br (v_6 = (mm_i 0)) (
    mm_r260_130 E cl n a0 x1 x2 x3 o4 (mm_i 0) h_5) (
    mm_r260_130 E cl n a0 x1 x2 x3 o4 (mm_i 1) h_5)))) := (rfl)
set_option maxRecDepth 20000 in
set_option maxHeartbeats 4000000 in
theorem mm_e260_130 (E : mm_E) (cl : mm_F) (n : Nat) (a0 : Nat) (x1 : Int32) (x2 : Int32) (x3 : Int32) (o4 : Option Value) (s0 : Int32) (h : mm_H) :
  mm_r260_130 E cl (n + 1) a0 x1 x2 x3 o4 s0 h =
  mm_gI h a0 9 32 fun v_1 =>
  (mm_br (v_1 = (mm_i 0)) (
  mm_gI h a0 9 29 fun v_2 =>
    (mm_br (v_2 = (mm_i 0)) (
    some (.inl (some (.int s0)), h)) (
    mm_cV [] (cl 233 [.ref a0, .int (mm_i 1)] h) fun h_3 =>
      some (.inl (some (.int s0)), h_3)))) (
  some (.inl (some (.int s0)), h))) := (rfl)
-- Mod.ask
noncomputable def mm_r261_0 (E : mm_E) (cl : mm_F) (n : Nat) (a0 : Nat) (x1 : Int32) (h : mm_H) : mm_R := mm_run E cl mm_m261 n 0 [some (.ref a0), some (.int x1), none, none, none, none, none] [] h
noncomputable def mm_r261_43 (E : mm_E) (cl : mm_F) (n : Nat) (a0 : Nat) (x1 : Int32) (x2 : Int32) (x3 : Int32) (o4 : Option Value) (o5 : Option Value) (o6 : Option Value) (h : mm_H) : mm_R := mm_run E cl mm_m261 n 43 [some (.ref a0), some (.int x1), some (.int x2), some (.int x3), o4, o5, o6] [] h
noncomputable def mm_r261_71 (E : mm_E) (cl : mm_F) (n : Nat) (a0 : Nat) (x1 : Int32) (x2 : Int32) (x3 : Int32) (x4 : Int32) (x5 : Int32) (o6 : Option Value) (h : mm_H) : mm_R := mm_run E cl mm_m261 n 71 [some (.ref a0), some (.int x1), some (.int x2), some (.int x3), some (.int x4), some (.int x5), o6] [] h
noncomputable def mm_r261_104 (E : mm_E) (cl : mm_F) (n : Nat) (a0 : Nat) (x1 : Int32) (x2 : Int32) (x3 : Int32) (x4 : Int32) (x5 : Int32) (x6 : Int32) (h : mm_H) : mm_R := mm_run E cl mm_m261 n 104 [some (.ref a0), some (.int x1), some (.int x2), some (.int x3), some (.int x4), some (.int x5), some (.int x6)] [] h
noncomputable def mm_r261_122 (E : mm_E) (cl : mm_F) (n : Nat) (a0 : Nat) (x1 : Int32) (x2 : Int32) (x3 : Int32) (x4 : Int32) (x5 : Int32) (x6 : Int32) (h : mm_H) : mm_R := mm_run E cl mm_m261 n 122 [some (.ref a0), some (.int x1), some (.int x2), some (.int x3), some (.int x4), some (.int x5), some (.int x6)] [] h
noncomputable def mm_r261_140 (E : mm_E) (cl : mm_F) (n : Nat) (a0 : Nat) (x1 : Int32) (x2 : Int32) (x3 : Int32) (x4 : Int32) (x5 : Int32) (x6 : Int32) (h : mm_H) : mm_R := mm_run E cl mm_m261 n 140 [some (.ref a0), some (.int x1), some (.int x2), some (.int x3), some (.int x4), some (.int x5), some (.int x6)] [] h
noncomputable def mm_r261_145 (E : mm_E) (cl : mm_F) (n : Nat) (a0 : Nat) (x1 : Int32) (x2 : Int32) (x3 : Int32) (x4 : Int32) (x5 : Int32) (x6 : Int32) (h : mm_H) : mm_R := mm_run E cl mm_m261 n 145 [some (.ref a0), some (.int x1), some (.int x2), some (.int x3), some (.int x4), some (.int x5), some (.int x6)] [] h
set_option maxRecDepth 20000 in
set_option maxHeartbeats 4000000 in
theorem mm_e261_0 (E : mm_E) (cl : mm_F) (n : Nat) (a0 : Nat) (x1 : Int32) (h : mm_H) :
  mm_r261_0 E cl (n + 1) a0 x1 h =
  mm_pF h a0 9 0 (.int (mm_i 0)) fun h_1 =>
  (mm_br (x1 < (mm_i 0)) (
  mm_cI [] (cl 146 [.ref a0, .int (mm_i 1)] h_1) fun v_3 h_2 =>
    some (.inl (some (.int v_3)), h_2)) (
  mm_gI h_1 a0 9 26 fun v_4 =>
    (mm_br (v_4 < x1) (
    mm_cI [] (cl 146 [.ref a0, .int (mm_i 1)] h_1) fun v_6 h_5 =>
      some (.inl (some (.int v_6)), h_5)) (
    (mm_br (x1 ≤ (mm_i 200)) (
      mm_cI [] (cl 260 [.ref a0, .int x1, .int (mm_i 0), .int (mm_i 0)] h_1) fun v_8 h_7 =>
        mm_cI [] (cl 240 [.ref a0] h_7) fun v_10 h_9 =>
        mm_r261_43 E cl n a0 x1 v_8 v_10 none none none h_9) (
      mm_cI [] (cl 146 [.ref a0, .int (mm_i 1)] h_1) fun v_12 h_11 =>
        some (.inl (some (.int v_12)), h_11))))))) := (rfl)
set_option maxRecDepth 20000 in
set_option maxHeartbeats 4000000 in
theorem mm_e261_43 (E : mm_E) (cl : mm_F) (n : Nat) (a0 : Nat) (x1 : Int32) (x2 : Int32) (x3 : Int32) (o4 : Option Value) (o5 : Option Value) (o6 : Option Value) (h : mm_H) :
  mm_r261_43 E cl (n + 1) a0 x1 x2 x3 o4 o5 o6 h =
  (mm_br (x3 = (mm_i 0)) (
  mm_gI h a0 9 38 fun v_1 =>
    (mm_br (v_1 = (mm_i 1)) (
    mm_r261_71 E cl n a0 x1 x2 x3 (mm_i (-1)) (mm_i 0) o6 h) (
    mm_r261_71 E cl n a0 x1 x2 x3 (mm_i 0) (mm_i 0) o6 h))) (
  some (.inl (some (.int ((mm_i (-1000000000)) - x3))), h))) := (rfl)
set_option maxRecDepth 20000 in
set_option maxHeartbeats 4000000 in
theorem mm_e261_71 (E : mm_E) (cl : mm_F) (n : Nat) (a0 : Nat) (x1 : Int32) (x2 : Int32) (x3 : Int32) (x4 : Int32) (x5 : Int32) (o6 : Option Value) (h : mm_H) :
  mm_r261_71 E cl (n + 1) a0 x1 x2 x3 x4 x5 o6 h =
  mm_cI [] (cl 150 [.ref a0] h) fun v_2 h_1 =>
  (mm_br (v_2 ≤ x5) (
  some (.inl (some (.int x4)), h_1)) (
  mm_cI [] (cl 260 [.ref a0, .int x1, .int x5, .int (mm_i 1)] h_1) fun v_4 h_3 =>
    mm_gI h_3 a0 9 38 fun v_5 =>
    (mm_br (v_5 = (mm_i 1)) (
    (mm_br (x4 = (mm_i (-1))) (
      mm_r261_104 E cl n a0 x1 x2 x3 x4 x5 v_4 h_3) (
      mm_r261_71 E cl n a0 x1 x2 x3 x4 (x5 + (mm_i 1)) (some (.int v_4)) h_3))) (
    mm_r261_122 E cl n a0 x1 x2 x3 x4 x5 v_4 h_3)))) := (rfl)
set_option maxRecDepth 20000 in
set_option maxHeartbeats 4000000 in
theorem mm_e261_104 (E : mm_E) (cl : mm_F) (n : Nat) (a0 : Nat) (x1 : Int32) (x2 : Int32) (x3 : Int32) (x4 : Int32) (x5 : Int32) (x6 : Int32) (h : mm_H) :
  mm_r261_104 E cl (n + 1) a0 x1 x2 x3 x4 x5 x6 h =
  (mm_br (x6 = (mm_i 1)) (
  mm_r261_71 E cl n a0 x1 x2 x3 x5 (x5 + (mm_i 1)) (some (.int x6)) h) (
  mm_r261_71 E cl n a0 x1 x2 x3 x4 (x5 + (mm_i 1)) (some (.int x6)) h)) := (rfl)
set_option maxRecDepth 20000 in
set_option maxHeartbeats 4000000 in
theorem mm_e261_122 (E : mm_E) (cl : mm_F) (n : Nat) (a0 : Nat) (x1 : Int32) (x2 : Int32) (x3 : Int32) (x4 : Int32) (x5 : Int32) (x6 : Int32) (h : mm_H) :
  mm_r261_122 E cl (n + 1) a0 x1 x2 x3 x4 x5 x6 h =
  mm_gI h a0 9 38 fun v_1 =>
  (mm_br ((mm_i 3) ≤ v_1) (
  mm_r261_140 E cl n a0 x1 x2 x3 x4 x5 x6 h) (
  mm_r261_71 E cl n a0 x1 x2 x3 (x4 + x6) (x5 + (mm_i 1)) (some (.int x6)) h)) := (rfl)
set_option maxRecDepth 20000 in
set_option maxHeartbeats 4000000 in
theorem mm_e261_140 (E : mm_E) (cl : mm_F) (n : Nat) (a0 : Nat) (x1 : Int32) (x2 : Int32) (x3 : Int32) (x4 : Int32) (x5 : Int32) (x6 : Int32) (h : mm_H) :
  mm_r261_140 E cl (n + 1) a0 x1 x2 x3 x4 x5 x6 h =
  (mm_br (x5 = (mm_i 0)) (
  mm_r261_71 E cl n a0 x1 x2 x3 x6 (x5 + (mm_i 1)) (some (.int x6)) h) (
  mm_r261_145 E cl n a0 x1 x2 x3 x4 x5 x6 h)) := (rfl)
set_option maxRecDepth 20000 in
set_option maxHeartbeats 4000000 in
theorem mm_e261_145 (E : mm_E) (cl : mm_F) (n : Nat) (a0 : Nat) (x1 : Int32) (x2 : Int32) (x3 : Int32) (x4 : Int32) (x5 : Int32) (x6 : Int32) (h : mm_H) :
  mm_r261_145 E cl (n + 1) a0 x1 x2 x3 x4 x5 x6 h =
  mm_gI h a0 9 38 fun v_1 =>
  (mm_br (v_1 = (mm_i 3)) (
  (mm_br (x6 ≤ x4) (
    mm_r261_71 E cl n a0 x1 x2 x3 x4 (x5 + (mm_i 1)) (some (.int x6)) h) (
    mm_r261_71 E cl n a0 x1 x2 x3 x6 (x5 + (mm_i 1)) (some (.int x6)) h))) (
  (mm_br (x4 ≤ x6) (
    mm_r261_71 E cl n a0 x1 x2 x3 x4 (x5 + (mm_i 1)) (some (.int x6)) h) (
    mm_r261_71 E cl n a0 x1 x2 x3 x6 (x5 + (mm_i 1)) (some (.int x6)) h)))) := (rfl)
