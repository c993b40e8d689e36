/-! EQUATIONS of the runs, part 6 (by program: wip/whole/genpure.py) -/
-- Mod.ends
def mm_r240_0 (E : mm_E) (cl : mm_F) (n : Nat) (a0 : Nat) (h : mm_H) : mm_R := mm_run E cl mm_m240 n 0 [some (.ref a0)] [] h
set_option maxRecDepth 20000 in
set_option maxHeartbeats 4000000 in
theorem mm_e240_0 (E : mm_E) (cl : mm_F) (n : Nat) (a0 : Nat) (h : mm_H) :
  mm_r240_0 E cl (n + 1) a0 h =
  mm_pF h a0 9 26 (.int (mm_i 0)) fun h_1 =>
  mm_gI h_1 a0 9 32 fun v_2 =>
  (mm_br (v_2 = (mm_i 0)) (
  mm_pF h_1 a0 9 34 (.int (mm_i (-1))) fun h_6 =>
    mm_gI h_6 a0 9 32 fun v_7 =>
    some (.inl (some (.int v_7)), h_6)) (
  mm_gI h_1 a0 9 33 fun v_3 =>
    mm_pF h_1 a0 9 34 (.int v_3) fun h_4 =>
    mm_gI h_4 a0 9 32 fun v_5 =>
    some (.inl (some (.int v_5)), h_4))) := rfl
-- Mod.fault
def mm_r241_0 (E : mm_E) (cl : mm_F) (n : Nat) (a0 : Nat) (h : mm_H) : mm_R := mm_run E cl mm_m241 n 0 [some (.ref a0)] [] h
set_option maxRecDepth 20000 in
set_option maxHeartbeats 4000000 in
theorem mm_e241_0 (E : mm_E) (cl : mm_F) (n : Nat) (a0 : Nat) (h : mm_H) :
  mm_r241_0 E cl (n + 1) a0 h =
  mm_pF h a0 9 0 (.int (mm_i 0)) fun h_1 =>
  mm_gI h_1 a0 9 34 fun v_2 =>
  some (.inl (some (.int v_2)), h_1) := rfl
-- Mod.isName
def mm_r242_0 (E : mm_E) (cl : mm_F) (n : Nat) (a0 : Nat) (h : mm_H) : mm_R := mm_run E cl mm_m242 n 0 [some (.ref a0)] [] h
set_option maxRecDepth 20000 in
set_option maxHeartbeats 4000000 in
theorem mm_e242_0 (E : mm_E) (cl : mm_F) (n : Nat) (a0 : Nat) (h : mm_H) :
  mm_r242_0 E cl (n + 1) a0 h =
  mm_gI h a0 9 32 fun v_1 =>
  (mm_br (v_1 = (mm_i 0)) (
  mm_gI h a0 9 29 fun v_2 =>
    (mm_br (v_2 = (mm_i 1)) (
    mm_gI h a0 9 31 fun v_3 =>
      mm_gI h a0 9 30 fun v_4 =>
      (mm_br ((mm_i 6) < (v_3 - v_4)) (
      (mm_bz (mm_i 0) (some (.inl (some (.int (mm_i 0))), h)))) (
      mm_cI [] (cl 235 [.ref a0, .ref (E.2.2.1 25)] h) fun v_6 h_5 =>
        (mm_br (v_6 = (mm_i 0)) (
        mm_cI [] (cl 235 [.ref a0, .ref (E.2.2.1 26)] h_5) fun v_8 h_7 =>
          (mm_br (v_8 = (mm_i 0)) (
          mm_cI [] (cl 235 [.ref a0, .ref (E.2.2.1 27)] h_7) fun v_10 h_9 =>
            (mm_br (v_10 = (mm_i 0)) (
            mm_cI [] (cl 235 [.ref a0, .ref (E.2.2.1 28)] h_9) fun v_12 h_11 =>
              (mm_br (v_12 = (mm_i 0)) (
              mm_cI [] (cl 235 [.ref a0, .ref (E.2.2.1 29)] h_11) fun v_14 h_13 =>
                (mm_br (v_14 = (mm_i 0)) (
                mm_cI [] (cl 235 [.ref a0, .ref (E.2.2.1 30)] h_13) fun v_16 h_15 =>
                  (mm_br (v_16 = (mm_i 0)) (
                  (mm_bz (mm_i 1) (some (.inl (some (.int (mm_i 1))), h_15)))) (
                  (mm_bz (mm_i 0) (some (.inl (some (.int (mm_i 0))), h_15)))))) (
                (mm_bz (mm_i 0) (some (.inl (some (.int (mm_i 0))), h_13)))))) (
              (mm_bz (mm_i 0) (some (.inl (some (.int (mm_i 0))), h_11)))))) (
            (mm_bz (mm_i 0) (some (.inl (some (.int (mm_i 0))), h_9)))))) (
          (mm_bz (mm_i 0) (some (.inl (some (.int (mm_i 0))), h_7)))))) (
        (mm_bz (mm_i 0) (some (.inl (some (.int (mm_i 0))), h_5)))))))) (
    (mm_bz (mm_i 0) (some (.inl (some (.int (mm_i 0))), h)))))) (
  (mm_bz (mm_i 0) (some (.inl (some (.int (mm_i 0))), h))))) := rfl
-- Mod.named
def mm_r243_0 (E : mm_E) (cl : mm_F) (n : Nat) (a0 : Nat) (h : mm_H) : mm_R := mm_run E cl mm_m243 n 0 [some (.ref a0), none, none, none] [] h
def mm_r243_2 (E : mm_E) (cl : mm_F) (n : Nat) (a0 : Nat) (x1 : Int32) (o2 : Option Value) (o3 : Option Value) (h : mm_H) : mm_R := mm_run E cl mm_m243 n 2 [some (.ref a0), some (.int x1), o2, o3] [] h
def mm_r243_16 (E : mm_E) (cl : mm_F) (n : Nat) (a0 : Nat) (x1 : Int32) (x2 : Int32) (x3 : Int32) (h : mm_H) : mm_R := mm_run E cl mm_m243 n 16 [some (.ref a0), some (.int x1), some (.int x2), some (.int x3)] [] h
set_option maxRecDepth 20000 in
set_option maxHeartbeats 4000000 in
theorem mm_e243_0 (E : mm_E) (cl : mm_F) (n : Nat) (a0 : Nat) (h : mm_H) :
  mm_r243_0 E cl (n + 1) a0 h =
  mm_r243_2 E cl n a0 (mm_i 0) none none h := rfl
set_option maxRecDepth 20000 in
set_option maxHeartbeats 4000000 in
theorem mm_e243_2 (E : mm_E) (cl : mm_F) (n : Nat) (a0 : Nat) (x1 : Int32) (o2 : Option Value) (o3 : Option Value) (h : mm_H) :
  mm_r243_2 E cl (n + 1) a0 x1 o2 o3 h =
  mm_gR h a0 9 2 fun p_1 =>
  mm_rI E h p_1 (mm_i 0) fun v_2 =>
  (mm_br (v_2 ≤ x1) (
  some (.inl (some (.int (mm_i (-1)))), h)) (
  mm_r243_16 E cl n a0 x1 (mm_i 1) (mm_i 0) h)) := rfl
set_option maxRecDepth 20000 in
set_option maxHeartbeats 4000000 in
theorem mm_e243_16 (E : mm_E) (cl : mm_F) (n : Nat) (a0 : Nat) (x1 : Int32) (x2 : Int32) (x3 : Int32) (h : mm_H) :
  mm_r243_16 E cl (n + 1) a0 x1 x2 x3 h =
  (mm_br ((mm_i 6) ≤ x3) (
  (mm_br (x2 = (mm_i 0)) (
    mm_r243_2 E cl n a0 (x1 + (mm_i 1)) (some (.int x2)) (some (.int x3)) h) (
    some (.inl (some (.int x1)), h)))) (
  (mm_br (x2 = (mm_i 0)) (
    mm_r243_16 E cl n a0 x1 (mm_i 0) (x3 + (mm_i 1)) h) (
    mm_gR h a0 9 2 fun p_1 =>
      mm_rI E h p_1 (((mm_i 87) + ((mm_i 6) * x1)) + x3) fun v_2 =>
      mm_gI h a0 9 30 fun v_3 =>
      mm_gI h a0 9 31 fun v_4 =>
      (mm_br (v_4 ≤ (v_3 + x3)) (
      (mm_br (v_2 = (mm_i 0)) (
        mm_r243_16 E cl n a0 x1 (mm_i 1) (x3 + (mm_i 1)) h) (
        mm_r243_16 E cl n a0 x1 (mm_i 0) (x3 + (mm_i 1)) h))) (
      mm_gR h a0 9 25 fun p_5 =>
        mm_gI h a0 9 30 fun v_6 =>
        mm_rI E h p_5 (v_6 + x3) fun v_7 =>
        (mm_br (v_2 = (v_7 - (mm_i 96))) (
        mm_r243_16 E cl n a0 x1 (mm_i 1) (x3 + (mm_i 1)) h) (
        mm_r243_16 E cl n a0 x1 (mm_i 0) (x3 + (mm_i 1)) h)))))))) := rfl
-- Mod.readKnown
def mm_r244_0 (E : mm_E) (cl : mm_F) (n : Nat) (a0 : Nat) (h : mm_H) : mm_R := mm_run E cl mm_m244 n 0 [some (.ref a0), none] [] h
def mm_r244_27 (E : mm_E) (cl : mm_F) (n : Nat) (a0 : Nat) (o1 : Option Value) (s0 : Int32) (h : mm_H) : mm_R := mm_run E cl mm_m244 n 27 [some (.ref a0), o1] [.int s0] h
set_option maxRecDepth 20000 in
set_option maxHeartbeats 4000000 in
theorem mm_e244_0 (E : mm_E) (cl : mm_F) (n : Nat) (a0 : Nat) (h : mm_H) :
  mm_r244_0 E cl (n + 1) a0 h =
  mm_cI [] (cl 242 [.ref a0] h) fun v_2 h_1 =>
  (mm_br (v_2 = (mm_i 0)) (
  mm_cV [] (cl 233 [.ref a0, .int (mm_i 1)] h_1) fun h_6 =>
    mm_gI h_6 a0 9 32 fun v_7 =>
    (mm_br (v_7 = (mm_i 0)) (
    mm_cI [] (cl 243 [.ref a0] h_6) fun v_9 h_8 =>
      mm_r244_27 E cl n a0 none v_9 h_8) (
    mm_r244_27 E cl n a0 none (mm_i 0) h_6))) (
  mm_gI h_1 a0 9 32 fun v_3 =>
    (mm_br (v_3 = (mm_i 0)) (
    mm_cI [] (cl 243 [.ref a0] h_1) fun v_5 h_4 =>
      mm_r244_27 E cl n a0 none v_5 h_4) (
    mm_r244_27 E cl n a0 none (mm_i 0) h_1)))) := rfl
set_option maxRecDepth 20000 in
set_option maxHeartbeats 4000000 in
theorem mm_e244_27 (E : mm_E) (cl : mm_F) (n : Nat) (a0 : Nat) (o1 : Option Value) (s0 : Int32) (h : mm_H) :
  mm_r244_27 E cl (n + 1) a0 o1 s0 h =
  (mm_br (s0 = (mm_i (-1))) (
  mm_cV [] (cl 233 [.ref a0, .int (mm_i 3)] h) fun h_1 =>
    some (.inl (some (.int s0)), h_1)) (
  some (.inl (some (.int s0)), h))) := rfl
-- Mod.readStage
def mm_r245_0 (E : mm_E) (cl : mm_F) (n : Nat) (a0 : Nat) (h : mm_H) : mm_R := mm_run E cl mm_m245 n 0 [some (.ref a0), none, none, none] [] h
def mm_r245_48 (E : mm_E) (cl : mm_F) (n : Nat) (a0 : Nat) (o1 : Option Value) (o2 : Option Value) (o3 : Option Value) (h : mm_H) : mm_R := mm_run E cl mm_m245 n 48 [some (.ref a0), o1, o2, o3] [] h
def mm_r245_65 (E : mm_E) (cl : mm_F) (n : Nat) (a0 : Nat) (x1 : Int32) (x2 : Int32) (o3 : Option Value) (h : mm_H) : mm_R := mm_run E cl mm_m245 n 65 [some (.ref a0), some (.int x1), some (.int x2), o3] [] h
def mm_r245_227 (E : mm_E) (cl : mm_F) (n : Nat) (a0 : Nat) (x1 : Int32) (x2 : Int32) (x3 : Int32) (h : mm_H) : mm_R := mm_run E cl mm_m245 n 227 [some (.ref a0), some (.int x1), some (.int x2), some (.int x3)] [] h
set_option maxRecDepth 20000 in
set_option maxHeartbeats 4000000 in
theorem mm_e245_0 (E : mm_E) (cl : mm_F) (n : Nat) (a0 : Nat) (h : mm_H) :
  mm_r245_0 E cl (n + 1) a0 h =
  mm_gR h a0 9 2 fun p_1 =>
  mm_rI E h p_1 (mm_i 0) fun v_2 =>
  (mm_br (v_2 = (mm_i 12)) (
  mm_cV [] (cl 233 [.ref a0, .int (mm_i 5)] h) fun h_10 =>
    mm_cV [] (cl 236 [.ref a0] h_10) fun h_11 =>
    mm_cI [] (cl 242 [.ref a0] h_11) fun v_13 h_12 =>
    (mm_br (v_13 = (mm_i 0)) (
    mm_cV [] (cl 233 [.ref a0, .int (mm_i 1)] h_12) fun h_17 =>
      mm_r245_48 E cl n a0 none none none h_17) (
    mm_cI [] (cl 243 [.ref a0] h_12) fun v_15 h_14 =>
      (mm_br (v_15 = (mm_i (-1))) (
      mm_r245_48 E cl n a0 none none none h_14) (
      mm_cV [] (cl 233 [.ref a0, .int (mm_i 3)] h_14) fun h_16 =>
        mm_r245_48 E cl n a0 none none none h_16))))) (
  mm_cV [] (cl 236 [.ref a0] h) fun h_3 =>
    mm_cI [] (cl 242 [.ref a0] h_3) fun v_5 h_4 =>
    (mm_br (v_5 = (mm_i 0)) (
    mm_cV [] (cl 233 [.ref a0, .int (mm_i 1)] h_4) fun h_9 =>
      mm_r245_48 E cl n a0 none none none h_9) (
    mm_cI [] (cl 243 [.ref a0] h_4) fun v_7 h_6 =>
      (mm_br (v_7 = (mm_i (-1))) (
      mm_r245_48 E cl n a0 none none none h_6) (
      mm_cV [] (cl 233 [.ref a0, .int (mm_i 3)] h_6) fun h_8 =>
        mm_r245_48 E cl n a0 none none none h_8)))))) := rfl
set_option maxRecDepth 20000 in
set_option maxHeartbeats 4000000 in
theorem mm_e245_48 (E : mm_E) (cl : mm_F) (n : Nat) (a0 : Nat) (o1 : Option Value) (o2 : Option Value) (o3 : Option Value) (h : mm_H) :
  mm_r245_48 E cl (n + 1) a0 o1 o2 o3 h =
  mm_gI h a0 9 32 fun v_1 =>
  (mm_br (v_1 = (mm_i 0)) (
  mm_gR h a0 9 2 fun p_2 =>
    mm_rI E h p_2 (mm_i 0) fun v_3 =>
    mm_r245_65 E cl n a0 v_3 (mm_i 0) o3 h) (
  some (.inl none, h))) := rfl
set_option maxRecDepth 20000 in
set_option maxHeartbeats 4000000 in
theorem mm_e245_65 (E : mm_E) (cl : mm_F) (n : Nat) (a0 : Nat) (x1 : Int32) (x2 : Int32) (o3 : Option Value) (h : mm_H) :
  mm_r245_65 E cl (n + 1) a0 x1 x2 o3 h =
  (mm_br ((mm_i 6) ≤ x2) (
  mm_cV [] (cl 236 [.ref a0] h) fun h_1 =>
    mm_cI [] (cl 239 [.ref a0, .int (mm_i 9)] h_1) fun v_3 h_2 =>
    mm_gR h_2 a0 9 2 fun p_4 =>
    mm_cI [] (cl 239 [.ref a0, .int (mm_i 999)] h_2) fun v_6 h_5 =>
    mm_cV [] (cl 153 [.ref p_4, .int x1, .int v_3, .int v_6] h_5) fun h_7 =>
    mm_cI [] (cl 235 [.ref a0, .ref (E.2.2.1 26)] h_7) fun v_9 h_8 =>
    (mm_br (v_9 = (mm_i 0)) (
    mm_cI [] (cl 235 [.ref a0, .ref (E.2.2.1 27)] h_8) fun v_11 h_10 =>
      (mm_br (v_11 = (mm_i 0)) (
      mm_r245_227 E cl n a0 x1 v_3 ((mm_i 3) + ((mm_i 7) * x1)) h_10) (
      mm_cV [] (cl 236 [.ref a0] h_10) fun h_12 =>
        mm_gR h_12 a0 9 2 fun p_13 =>
        mm_cI [] (cl 239 [.ref a0, .int (mm_i 99)] h_12) fun v_15 h_14 =>
        mm_wI h_14 p_13 (((mm_i 3) + ((mm_i 7) * x1)) + (mm_i 3)) v_15 fun h_16 =>
        mm_gR h_16 a0 9 2 fun p_17 =>
        mm_cI [] (cl 239 [.ref a0, .int (mm_i 9999)] h_16) fun v_19 h_18 =>
        mm_wI h_18 p_17 (((mm_i 3) + ((mm_i 7) * x1)) + (mm_i 4)) v_19 fun h_20 =>
        mm_r245_227 E cl n a0 x1 v_3 ((mm_i 3) + ((mm_i 7) * x1)) h_20))) (
    mm_cV [] (cl 236 [.ref a0] h_8) fun h_21 =>
      mm_gR h_21 a0 9 2 fun p_22 =>
      mm_cI [] (cl 239 [.ref a0, .int (mm_i 9)] h_21) fun v_24 h_23 =>
      mm_wI h_23 p_22 (((mm_i 3) + ((mm_i 7) * x1)) + (mm_i 2)) v_24 fun h_25 =>
      mm_cI [] (cl 235 [.ref a0, .ref (E.2.2.1 27)] h_25) fun v_27 h_26 =>
      (mm_br (v_27 = (mm_i 0)) (
      mm_r245_227 E cl n a0 x1 v_3 ((mm_i 3) + ((mm_i 7) * x1)) h_26) (
      mm_cV [] (cl 236 [.ref a0] h_26) fun h_28 =>
        mm_gR h_28 a0 9 2 fun p_29 =>
        mm_cI [] (cl 239 [.ref a0, .int (mm_i 99)] h_28) fun v_31 h_30 =>
        mm_wI h_30 p_29 (((mm_i 3) + ((mm_i 7) * x1)) + (mm_i 3)) v_31 fun h_32 =>
        mm_gR h_32 a0 9 2 fun p_33 =>
        mm_cI [] (cl 239 [.ref a0, .int (mm_i 9999)] h_32) fun v_35 h_34 =>
        mm_wI h_34 p_33 (((mm_i 3) + ((mm_i 7) * x1)) + (mm_i 4)) v_35 fun h_36 =>
        mm_r245_227 E cl n a0 x1 v_3 ((mm_i 3) + ((mm_i 7) * x1)) h_36))))) (
  mm_gR h a0 9 2 fun p_37 =>
    mm_gI h a0 9 30 fun v_38 =>
    mm_gI h a0 9 31 fun v_39 =>
    (mm_br (v_39 ≤ (v_38 + x2)) (
    mm_wI h p_37 (((mm_i 87) + ((mm_i 6) * x1)) + x2) (mm_i 0) fun h_40 =>
      mm_r245_65 E cl n a0 x1 (x2 + (mm_i 1)) o3 h_40) (
    mm_gR h a0 9 25 fun p_41 =>
      mm_gI h a0 9 30 fun v_42 =>
      mm_rI E h p_41 (v_42 + x2) fun v_43 =>
      mm_wI h p_37 (((mm_i 87) + ((mm_i 6) * x1)) + x2) (v_43 - (mm_i 96)) fun h_44 =>
      mm_r245_65 E cl n a0 x1 (x2 + (mm_i 1)) o3 h_44)))) := rfl
set_option maxRecDepth 20000 in
set_option maxHeartbeats 4000000 in
theorem mm_e245_227 (E : mm_E) (cl : mm_F) (n : Nat) (a0 : Nat) (x1 : Int32) (x2 : Int32) (x3 : Int32) (h : mm_H) :
  mm_r245_227 E cl (n + 1) a0 x1 x2 x3 h =
  mm_cI [] (cl 235 [.ref a0, .ref (E.2.2.1 28)] h) fun v_2 h_1 =>
  (mm_br (v_2 = (mm_i 0)) (
  mm_gR h_1 a0 9 2 fun p_3 =>
    mm_rI E h_1 p_3 (mm_i 0) fun v_4 =>
    mm_wI h_1 p_3 (mm_i 0) (v_4 + (mm_i 1)) fun h_5 =>
    some (.inl none, h_5)) (
  mm_cV [] (cl 236 [.ref a0] h_1) fun h_6 =>
    mm_gR h_6 a0 9 2 fun p_7 =>
    mm_cI [] (cl 239 [.ref a0, .int (mm_i 20)] h_6) fun v_9 h_8 =>
    mm_wI h_8 p_7 (x3 + (mm_i 5)) v_9 fun h_10 =>
    mm_gR h_10 a0 9 2 fun p_11 =>
    mm_rI E h_10 p_11 (mm_i 0) fun v_12 =>
    mm_wI h_10 p_11 (mm_i 0) (v_12 + (mm_i 1)) fun h_13 =>
    some (.inl none, h_13))) := rfl
-- Mod.readSupply
def mm_r246_0 (E : mm_E) (cl : mm_F) (n : Nat) (a0 : Nat) (h : mm_H) : mm_R := mm_run E cl mm_m246 n 0 [some (.ref a0), none, none] [] h
set_option maxRecDepth 20000 in
set_option maxHeartbeats 4000000 in
theorem mm_e246_0 (E : mm_E) (cl : mm_F) (n : Nat) (a0 : Nat) (h : mm_H) :
  mm_r246_0 E cl (n + 1) a0 h =
  mm_cV [] (cl 236 [.ref a0] h) fun h_1 =>
  mm_cI [] (cl 244 [.ref a0] h_1) fun v_3 h_2 =>
  mm_cV [] (cl 236 [.ref a0] h_2) fun h_4 =>
  mm_cI [] (cl 244 [.ref a0] h_4) fun v_6 h_5 =>
  mm_gI h_5 a0 9 32 fun v_7 =>
  (mm_br (v_7 = (mm_i 0)) (
  mm_gR h_5 a0 9 2 fun p_12 =>
    mm_cI [] (cl 161 [.ref p_12, .int v_3] h_5) fun v_14 h_13 =>
    mm_cI [] (cl 159 [.int v_14, .int v_6] h_13) fun v_16 h_15 =>
    (mm_br (v_16 = (mm_i 0)) (
    mm_cV [] (cl 236 [.ref a0] h_15) fun h_17 =>
      mm_gI h_17 a0 9 32 fun v_18 =>
      (mm_br (v_18 = (mm_i 0)) (
      mm_gR h_17 a0 9 2 fun p_19 =>
        mm_cV [] (cl 154 [.ref p_19, .int v_3, .int v_6] h_17) fun h_20 =>
        some (.inl none, h_20)) (
      some (.inl none, h_17)))) (
    mm_cV [] (cl 233 [.ref a0, .int (mm_i 4)] h_15) fun h_21 =>
      mm_cV [] (cl 236 [.ref a0] h_21) fun h_22 =>
      mm_gI h_22 a0 9 32 fun v_23 =>
      (mm_br (v_23 = (mm_i 0)) (
      mm_gR h_22 a0 9 2 fun p_24 =>
        mm_cV [] (cl 154 [.ref p_24, .int v_3, .int v_6] h_22) fun h_25 =>
        some (.inl none, h_25)) (
      some (.inl none, h_22)))))) (
  mm_cV [] (cl 236 [.ref a0] h_5) fun h_8 =>
    mm_gI h_8 a0 9 32 fun v_9 =>
    (mm_br (v_9 = (mm_i 0)) (
    mm_gR h_8 a0 9 2 fun p_10 =>
      mm_cV [] (cl 154 [.ref p_10, .int v_3, .int v_6] h_8) fun h_11 =>
      some (.inl none, h_11)) (
    some (.inl none, h_8))))) := rfl
-- Mod.readLine
def mm_r247_0 (E : mm_E) (cl : mm_F) (n : Nat) (a0 : Nat) (h : mm_H) : mm_R := mm_run E cl mm_m247 n 0 [some (.ref a0)] [] h
set_option maxRecDepth 20000 in
set_option maxHeartbeats 4000000 in
theorem mm_e247_0 (E : mm_E) (cl : mm_F) (n : Nat) (a0 : Nat) (h : mm_H) :
  mm_r247_0 E cl (n + 1) a0 h =
  mm_cI [] (cl 235 [.ref a0, .ref (E.2.2.1 25)] h) fun v_2 h_1 =>
  (mm_br (v_2 = (mm_i 0)) (
  mm_cI [] (cl 235 [.ref a0, .ref (E.2.2.1 29)] h_1) fun v_4 h_3 =>
    (mm_br (v_4 = (mm_i 0)) (
    mm_cI [] (cl 235 [.ref a0, .ref (E.2.2.1 30)] h_3) fun v_6 h_5 =>
      (mm_br (v_6 = (mm_i 0)) (
      mm_cV [] (cl 233 [.ref a0, .int (mm_i 1)] h_5) fun h_7 =>
        mm_cV [] (cl 237 [.ref a0, .int (mm_i 59)] h_7) fun h_8 =>
        some (.inl none, h_8)) (
      mm_cV [] (cl 236 [.ref a0] h_5) fun h_9 =>
        mm_gR h_9 a0 9 2 fun p_10 =>
        mm_cI [] (cl 239 [.ref a0, .int (mm_i 400)] h_9) fun v_12 h_11 =>
        mm_wI h_11 p_10 (mm_i 1) v_12 fun h_13 =>
        mm_cV [] (cl 237 [.ref a0, .int (mm_i 59)] h_13) fun h_14 =>
        some (.inl none, h_14)))) (
    mm_cV [] (cl 246 [.ref a0] h_3) fun h_15 =>
      mm_cV [] (cl 237 [.ref a0, .int (mm_i 59)] h_15) fun h_16 =>
      some (.inl none, h_16)))) (
  mm_cV [] (cl 245 [.ref a0] h_1) fun h_17 =>
    mm_cV [] (cl 237 [.ref a0, .int (mm_i 59)] h_17) fun h_18 =>
    some (.inl none, h_18))) := rfl
-- Mod.network
def mm_r248_0 (E : mm_E) (cl : mm_F) (n : Nat) (a0 : Nat) (x1 : Int32) (h : mm_H) : mm_R := mm_run E cl mm_m248 n 0 [some (.ref a0), some (.int x1), none, none] [] h
def mm_r248_35 (E : mm_E) (cl : mm_F) (n : Nat) (a0 : Nat) (x1 : Int32) (o2 : Option Value) (o3 : Option Value) (h : mm_H) : mm_R := mm_run E cl mm_m248 n 35 [some (.ref a0), some (.int x1), o2, o3] [] h
def mm_r248_88 (E : mm_E) (cl : mm_F) (n : Nat) (a0 : Nat) (x1 : Int32) (x2 : Int32) (x3 : Int32) (h : mm_H) : mm_R := mm_run E cl mm_m248 n 88 [some (.ref a0), some (.int x1), some (.int x2), some (.int x3)] [] h
set_option maxRecDepth 20000 in
set_option maxHeartbeats 4000000 in
theorem mm_e248_0 (E : mm_E) (cl : mm_F) (n : Nat) (a0 : Nat) (x1 : Int32) (h : mm_H) :
  mm_r248_0 E cl (n + 1) a0 x1 h =
  mm_pF h a0 9 0 (.int (mm_i 0)) fun h_1 =>
  (mm_br (x1 < (mm_i 0)) (
  mm_cI [] (cl 146 [.ref a0, .int (mm_i 1)] h_1) fun v_3 h_2 =>
    some (.inl (some (.int v_3)), h_2)) (
  mm_gI h_1 a0 9 26 fun v_4 =>
    (mm_br (x1 ≤ v_4) (
    mm_gR h_1 a0 9 2 fun p_5 =>
      mm_cV [] (cl 149 [.ref p_5] h_1) fun h_6 =>
      mm_cV [] (cl 238 [.ref a0, .int x1] h_6) fun h_7 =>
      mm_r248_35 E cl n a0 x1 none none h_7) (
    mm_cI [] (cl 146 [.ref a0, .int (mm_i 1)] h_1) fun v_9 h_8 =>
      some (.inl (some (.int v_9)), h_8))))) := rfl
set_option maxRecDepth 20000 in
set_option maxHeartbeats 4000000 in
theorem mm_e248_35 (E : mm_E) (cl : mm_F) (n : Nat) (a0 : Nat) (x1 : Int32) (o2 : Option Value) (o3 : Option Value) (h : mm_H) :
  mm_r248_35 E cl (n + 1) a0 x1 o2 o3 h =
  mm_gI h a0 9 32 fun v_1 =>
  (mm_br (v_1 = (mm_i 0)) (
  mm_gI h a0 9 29 fun v_8 =>
    (mm_br (v_8 = (mm_i 0)) (
    mm_cI [] (cl 240 [.ref a0] h) fun v_10 h_9 =>
      (mm_br (v_10 = (mm_i 0)) (
      mm_gR h_9 a0 9 1 fun p_11 =>
        mm_gR h_9 a0 9 2 fun p_12 =>
        mm_cV [] (cl 225 [.ref p_11, .ref p_12] h_9) fun h_13 =>
        mm_pF h_13 a0 9 4 (.int (mm_i 0)) fun h_14 =>
        mm_r248_88 E cl n a0 x1 v_10 (mm_i 0) h_14) (
      some (.inl (some (.int ((mm_i (-10)) - v_10))), h_9)))) (
    mm_cV [] (cl 247 [.ref a0] h) fun h_15 =>
      mm_r248_35 E cl n a0 x1 o2 o3 h_15))) (
  mm_cI [] (cl 240 [.ref a0] h) fun v_3 h_2 =>
    (mm_br (v_3 = (mm_i 0)) (
    mm_gR h_2 a0 9 1 fun p_4 =>
      mm_gR h_2 a0 9 2 fun p_5 =>
      mm_cV [] (cl 225 [.ref p_4, .ref p_5] h_2) fun h_6 =>
      mm_pF h_6 a0 9 4 (.int (mm_i 0)) fun h_7 =>
      mm_r248_88 E cl n a0 x1 v_3 (mm_i 0) h_7) (
    some (.inl (some (.int ((mm_i (-10)) - v_3))), h_2))))) := rfl
set_option maxRecDepth 20000 in
set_option maxHeartbeats 4000000 in
theorem mm_e248_88 (E : mm_E) (cl : mm_F) (n : Nat) (a0 : Nat) (x1 : Int32) (x2 : Int32) (x3 : Int32) (h : mm_H) :
  mm_r248_88 E cl (n + 1) a0 x1 x2 x3 h =
  (mm_br ((mm_i 12) ≤ x3) (
  mm_cI [] (cl 150 [.ref a0] h) fun v_2 h_1 =>
    some (.inl (some (.int v_2)), h_1)) (
  mm_cV [] (cl 177 [.ref a0, .int x3] h) fun h_3 =>
    mm_r248_88 E cl n a0 x1 x2 (x3 + (mm_i 1)) h_3)) := rfl
-- Mod.toldOf
def mm_r249_0 (E : mm_E) (cl : mm_F) (n : Nat) (a0 : Nat) (h : mm_H) : mm_R := mm_run E cl mm_m249 n 0 [some (.ref a0)] [] h
set_option maxRecDepth 20000 in
set_option maxHeartbeats 4000000 in
theorem mm_e249_0 (E : mm_E) (cl : mm_F) (n : Nat) (a0 : Nat) (h : mm_H) :
  mm_r249_0 E cl (n + 1) a0 h =
  mm_cI [] (cl 235 [.ref a0, .ref (E.2.2.1 37)] h) fun v_2 h_1 =>
  (mm_br (v_2 = (mm_i 0)) (
  mm_cI [] (cl 235 [.ref a0, .ref (E.2.2.1 38)] h_1) fun v_4 h_3 =>
    (mm_br (v_4 = (mm_i 0)) (
    mm_cI [] (cl 235 [.ref a0, .ref (E.2.2.1 39)] h_3) fun v_6 h_5 =>
      (mm_br (v_6 = (mm_i 0)) (
      mm_cI [] (cl 235 [.ref a0, .ref (E.2.2.1 26)] h_5) fun v_8 h_7 =>
        (mm_br (v_8 = (mm_i 0)) (
        mm_cI [] (cl 235 [.ref a0, .ref (E.2.2.1 40)] h_7) fun v_10 h_9 =>
          (mm_br (v_10 = (mm_i 0)) (
          mm_cI [] (cl 235 [.ref a0, .ref (E.2.2.1 41)] h_9) fun v_12 h_11 =>
            (mm_br (v_12 = (mm_i 0)) (
            mm_cI [] (cl 235 [.ref a0, .ref (E.2.2.1 28)] h_11) fun v_14 h_13 =>
              (mm_br (v_14 = (mm_i 0)) (
              mm_cI [] (cl 235 [.ref a0, .ref (E.2.2.1 42)] h_13) fun v_16 h_15 =>
                (mm_br (v_16 = (mm_i 0)) (
                mm_cI [] (cl 250 [.ref a0] h_15) fun v_18 h_17 =>
                  some (.inl (some (.int v_18)), h_17)) (
                mm_gI h_15 a0 9 36 fun v_19 =>
                  mm_cI [] (cl 152 [.ref a0, .int v_19, .int (mm_i 6)] h_15) fun v_21 h_20 =>
                  some (.inl (some (.int v_21)), h_20)))) (
              mm_gI h_13 a0 9 36 fun v_22 =>
                mm_cI [] (cl 152 [.ref a0, .int v_22, .int (mm_i 5)] h_13) fun v_24 h_23 =>
                some (.inl (some (.int v_24)), h_23)))) (
            mm_gI h_11 a0 9 36 fun v_25 =>
              mm_cI [] (cl 152 [.ref a0, .int v_25, .int (mm_i 4)] h_11) fun v_27 h_26 =>
              some (.inl (some (.int v_27)), h_26)))) (
          mm_gI h_9 a0 9 36 fun v_28 =>
            mm_cI [] (cl 152 [.ref a0, .int v_28, .int (mm_i 3)] h_9) fun v_30 h_29 =>
            some (.inl (some (.int v_30)), h_29)))) (
        mm_gI h_7 a0 9 36 fun v_31 =>
          mm_cI [] (cl 152 [.ref a0, .int v_31, .int (mm_i 2)] h_7) fun v_33 h_32 =>
          some (.inl (some (.int v_33)), h_32)))) (
      mm_gI h_5 a0 9 36 fun v_34 =>
        mm_cI [] (cl 152 [.ref a0, .int v_34, .int (mm_i 1)] h_5) fun v_36 h_35 =>
        some (.inl (some (.int v_36)), h_35)))) (
    mm_gI h_3 a0 9 36 fun v_37 =>
      mm_cI [] (cl 152 [.ref a0, .int v_37, .int (mm_i 0)] h_3) fun v_39 h_38 =>
      some (.inl (some (.int v_39)), h_38)))) (
  mm_gI h_1 a0 9 36 fun v_40 =>
    some (.inl (some (.int v_40)), h_1))) := rfl
-- Mod.madeOf
def mm_r250_0 (E : mm_E) (cl : mm_F) (n : Nat) (a0 : Nat) (h : mm_H) : mm_R := mm_run E cl mm_m250 n 0 [some (.ref a0)] [] h
set_option maxRecDepth 20000 in
set_option maxHeartbeats 4000000 in
theorem mm_e250_0 (E : mm_E) (cl : mm_F) (n : Nat) (a0 : Nat) (h : mm_H) :
  mm_r250_0 E cl (n + 1) a0 h =
  mm_cI [] (cl 235 [.ref a0, .ref (E.2.2.1 43)] h) fun v_2 h_1 =>
  (mm_br (v_2 = (mm_i 0)) (
  mm_cI [] (cl 235 [.ref a0, .ref (E.2.2.1 44)] h_1) fun v_4 h_3 =>
    (mm_br (v_4 = (mm_i 0)) (
    mm_cI [] (cl 235 [.ref a0, .ref (E.2.2.1 45)] h_3) fun v_6 h_5 =>
      (mm_br (v_6 = (mm_i 0)) (
      mm_cI [] (cl 235 [.ref a0, .ref (E.2.2.1 46)] h_5) fun v_8 h_7 =>
        (mm_br (v_8 = (mm_i 0)) (
        mm_cI [] (cl 235 [.ref a0, .ref (E.2.2.1 47)] h_7) fun v_10 h_9 =>
          (mm_br (v_10 = (mm_i 0)) (
          mm_cI [] (cl 251 [.ref a0] h_9) fun v_12 h_11 =>
            some (.inl (some (.int v_12)), h_11)) (
          mm_gI h_9 a0 9 36 fun v_13 =>
            mm_cI [] (cl 158 [.ref a0, .int v_13] h_9) fun v_15 h_14 =>
            mm_cI [] (cl 160 [.int v_15] h_14) fun v_17 h_16 =>
            some (.inl (some (.int v_17)), h_16)))) (
        mm_gI h_7 a0 9 36 fun v_18 =>
          mm_cI [] (cl 157 [.ref a0, .int v_18] h_7) fun v_20 h_19 =>
          mm_cI [] (cl 160 [.int v_20] h_19) fun v_22 h_21 =>
          some (.inl (some (.int v_22)), h_21)))) (
      mm_gI h_5 a0 9 36 fun v_23 =>
        mm_cI [] (cl 163 [.ref a0, .int v_23] h_5) fun v_25 h_24 =>
        some (.inl (some (.int v_25)), h_24)))) (
    mm_gI h_3 a0 9 36 fun v_26 =>
      mm_cI [] (cl 162 [.ref a0, .int v_26, .int (mm_i 4)] h_3) fun v_28 h_27 =>
      some (.inl (some (.int v_28)), h_27)))) (
  mm_gI h_1 a0 9 36 fun v_29 =>
    mm_cI [] (cl 162 [.ref a0, .int v_29, .int (mm_i 3)] h_1) fun v_31 h_30 =>
    some (.inl (some (.int v_31)), h_30))) := rfl
-- Mod.plannedOf
def mm_r251_0 (E : mm_E) (cl : mm_F) (n : Nat) (a0 : Nat) (h : mm_H) : mm_R := mm_run E cl mm_m251 n 0 [some (.ref a0), none, none, none] [] h
def mm_r251_99 (E : mm_E) (cl : mm_F) (n : Nat) (a0 : Nat) (x1 : Int32) (x2 : Int32) (x3 : Int32) (h : mm_H) : mm_R := mm_run E cl mm_m251 n 99 [some (.ref a0), some (.int x1), some (.int x2), some (.int x3)] [] h
set_option maxRecDepth 20000 in
set_option maxHeartbeats 4000000 in
theorem mm_e251_0 (E : mm_E) (cl : mm_F) (n : Nat) (a0 : Nat) (h : mm_H) :
  mm_r251_0 E cl (n + 1) a0 h =
  mm_cI [] (cl 235 [.ref a0, .ref (E.2.2.1 48)] h) fun v_2 h_1 =>
  (mm_br (v_2 = (mm_i 0)) (
  mm_cI [] (cl 235 [.ref a0, .ref (E.2.2.1 49)] h_1) fun v_4 h_3 =>
    (mm_br (v_4 = (mm_i 0)) (
    mm_cI [] (cl 235 [.ref a0, .ref (E.2.2.1 50)] h_3) fun v_6 h_5 =>
      mm_cI [] (cl 235 [.ref a0, .ref (E.2.2.1 51)] h_5) fun v_8 h_7 =>
      mm_cI [] (cl 235 [.ref a0, .ref (E.2.2.1 52)] h_7) fun v_10 h_9 =>
      (mm_br (v_6 = (mm_i 0)) (
      (mm_br (v_8 = (mm_i 0)) (
        (mm_br (v_10 = (mm_i 0)) (
          mm_cI [] (cl 235 [.ref a0, .ref (E.2.2.1 53)] h_9) fun v_12 h_11 =>
            (mm_br (v_12 = (mm_i 0)) (
            mm_cV [] (cl 233 [.ref a0, .int (mm_i 1)] h_11) fun h_13 =>
              mm_r251_99 E cl n a0 v_6 v_8 v_10 h_13) (
            mm_r251_99 E cl n a0 v_6 v_8 v_10 h_11))) (
          mm_r251_99 E cl n a0 v_6 v_8 v_10 h_9))) (
        mm_r251_99 E cl n a0 v_6 v_8 v_10 h_9))) (
      mm_gI h_9 a0 9 36 fun v_14 =>
        mm_cI [] (cl 180 [.ref a0, .int v_14] h_9) fun v_16 h_15 =>
        some (.inl (some (.int v_16)), h_15)))) (
    mm_gI h_3 a0 9 36 fun v_17 =>
      mm_cI [] (cl 179 [.ref a0, .int v_17] h_3) fun v_19 h_18 =>
      some (.inl (some (.int v_19)), h_18)))) (
  mm_gR h_1 a0 9 5 fun p_20 =>
    mm_gI h_1 a0 9 36 fun v_21 =>
    mm_rI E h_1 p_20 v_21 fun v_22 =>
    some (.inl (some (.int v_22)), h_1))) := rfl
set_option maxRecDepth 20000 in
set_option maxHeartbeats 4000000 in
theorem mm_e251_99 (E : mm_E) (cl : mm_F) (n : Nat) (a0 : Nat) (x1 : Int32) (x2 : Int32) (x3 : Int32) (h : mm_H) :
  mm_r251_99 E cl (n + 1) a0 x1 x2 x3 h =
  mm_gI h a0 9 32 fun v_1 =>
  (mm_br (v_1 = (mm_i 0)) (
  mm_gI h a0 9 36 fun v_2 =>
    mm_cI [] (cl 180 [.ref a0, .int v_2] h) fun v_4 h_3 =>
    (mm_br ((mm_i 0) ≤ v_4) (
    (mm_br (x2 = (mm_i 0)) (
      (mm_br (x3 = (mm_i 0)) (
        mm_gI h_3 a0 9 36 fun v_5 =>
          mm_cI [] (cl 152 [.ref a0, .int v_5, .int (mm_i 1)] h_3) fun v_7 h_6 =>
          mm_gI h_6 a0 9 36 fun v_8 =>
          mm_cI [] (cl 183 [.ref a0, .int v_8] h_6) fun v_10 h_9 =>
          some (.inl (some (.int (v_7 * v_10))), h_9)) (
        mm_gI h_3 a0 9 36 fun v_11 =>
          mm_gI h_3 a0 9 36 fun v_12 =>
          mm_cI [] (cl 180 [.ref a0, .int v_12] h_3) fun v_14 h_13 =>
          mm_cI [] (cl 166 [.ref a0, .int v_11, .int v_14] h_13) fun v_16 h_15 =>
          some (.inl (some (.int v_16)), h_15)))) (
      mm_gI h_3 a0 9 36 fun v_17 =>
        mm_cI [] (cl 183 [.ref a0, .int v_17] h_3) fun v_19 h_18 =>
        some (.inl (some (.int v_19)), h_18)))) (
    some (.inl (some (.int (mm_i (-1)))), h_3)))) (
  some (.inl (some (.int (mm_i (-1)))), h))) := rfl
-- Mod.goesIn
def mm_r252_0 (E : mm_E) (cl : mm_F) (n : Nat) (a0 : Nat) (h : mm_H) : mm_R := mm_run E cl mm_m252 n 0 [some (.ref a0)] [] h
set_option maxRecDepth 20000 in
set_option maxHeartbeats 4000000 in
theorem mm_e252_0 (E : mm_E) (cl : mm_F) (n : Nat) (a0 : Nat) (h : mm_H) :
  mm_r252_0 E cl (n + 1) a0 h =
  mm_gI h a0 9 32 fun v_1 =>
  (mm_br (v_1 = (mm_i 0)) (
  mm_gI h a0 9 35 fun v_5 =>
    (mm_br (v_5 = (mm_i 6)) (
    mm_cV [] (cl 233 [.ref a0, .int (mm_i 3)] h) fun h_9 =>
      mm_gI h_9 a0 9 35 fun v_10 =>
      mm_pF h_9 a0 9 35 (.int (v_10 + (mm_i 1))) fun h_11 =>
      mm_cV [] (cl 236 [.ref a0] h_11) fun h_12 =>
      some (.inl none, h_12)) (
    mm_gI h a0 9 35 fun v_6 =>
      mm_pF h a0 9 35 (.int (v_6 + (mm_i 1))) fun h_7 =>
      mm_cV [] (cl 236 [.ref a0] h_7) fun h_8 =>
      some (.inl none, h_8)))) (
  mm_gI h a0 9 35 fun v_2 =>
    mm_pF h a0 9 35 (.int (v_2 + (mm_i 1))) fun h_3 =>
    mm_cV [] (cl 236 [.ref a0] h_3) fun h_4 =>
    some (.inl none, h_4))) := rfl
-- Mod.readPart
def mm_r253_0 (E : mm_E) (cl : mm_F) (n : Nat) (a0 : Nat) (h : mm_H) : mm_R := mm_run E cl mm_m253 n 0 [some (.ref a0), none] [] h
set_option maxRecDepth 20000 in
set_option maxHeartbeats 4000000 in
theorem mm_e253_0 (E : mm_E) (cl : mm_F) (n : Nat) (a0 : Nat) (h : mm_H) :
  mm_r253_0 E cl (n + 1) a0 h =
  mm_gI h a0 9 32 fun v_1 =>
  (mm_br (v_1 = (mm_i 0)) (
  mm_gI h a0 9 29 fun v_2 =>
    (mm_br (v_2 = (mm_i 2)) (
    mm_cI [] (cl 239 [.ref a0, .int (mm_i 9999)] h) fun v_19 h_18 =>
      some (.inl (some (.int v_19)), h_18)) (
    mm_cI [] (cl 234 [.ref a0, .int (mm_i 40)] h) fun v_4 h_3 =>
      (mm_br (v_4 = (mm_i 0)) (
      mm_gI h_3 a0 9 37 fun v_5 =>
        (mm_br (v_5 = (mm_i 0)) (
        mm_cI [] (cl 254 [.ref a0] h_3) fun v_7 h_6 =>
          mm_cV [] (cl 236 [.ref a0] h_6) fun h_8 =>
          some (.inl (some (.int v_7)), h_8)) (
        mm_cI [] (cl 249 [.ref a0] h_3) fun v_10 h_9 =>
          mm_cV [] (cl 236 [.ref a0] h_9) fun h_11 =>
          some (.inl (some (.int v_10)), h_11)))) (
      mm_cV [] (cl 252 [.ref a0] h_3) fun h_12 =>
        mm_cI [] (cl 256 [.ref a0] h_12) fun v_14 h_13 =>
        mm_cV [] (cl 237 [.ref a0, .int (mm_i 41)] h_13) fun h_15 =>
        mm_gI h_15 a0 9 35 fun v_16 =>
        mm_pF h_15 a0 9 35 (.int (v_16 - (mm_i 1))) fun h_17 =>
        some (.inl (some (.int v_14)), h_17)))))) (
  some (.inl (some (.int (mm_i 0))), h))) := rfl
-- Mod.lookAtWord
def mm_r254_0 (E : mm_E) (cl : mm_F) (n : Nat) (a0 : Nat) (h : mm_H) : mm_R := mm_run E cl mm_m254 n 0 [some (.ref a0), none] [] h
def mm_r254_105 (E : mm_E) (cl : mm_F) (n : Nat) (a0 : Nat) (o1 : Option Value) (s0 : Int32) (h : mm_H) : mm_R := mm_run E cl mm_m254 n 105 [some (.ref a0), o1] [.int s0] h
def mm_r254_200 (E : mm_E) (cl : mm_F) (n : Nat) (a0 : Nat) (x1 : Int32) (h : mm_H) : mm_R := mm_run E cl mm_m254 n 200 [some (.ref a0), some (.int x1)] [] h
set_option maxRecDepth 20000 in
set_option maxHeartbeats 4000000 in
theorem mm_e254_0 (E : mm_E) (cl : mm_F) (n : Nat) (a0 : Nat) (h : mm_H) :
  mm_r254_0 E cl (n + 1) a0 h =
  mm_cI [] (cl 235 [.ref a0, .ref (E.2.2.1 37)] h) fun v_2 h_1 =>
  (mm_br (v_2 = (mm_i 0)) (
  mm_cI [] (cl 235 [.ref a0, .ref (E.2.2.1 38)] h_1) fun v_4 h_3 =>
    (mm_br (v_4 = (mm_i 0)) (
    mm_cI [] (cl 235 [.ref a0, .ref (E.2.2.1 39)] h_3) fun v_6 h_5 =>
      (mm_br (v_6 = (mm_i 0)) (
      mm_cI [] (cl 235 [.ref a0, .ref (E.2.2.1 26)] h_5) fun v_8 h_7 =>
        (mm_br (v_8 = (mm_i 0)) (
        mm_cI [] (cl 235 [.ref a0, .ref (E.2.2.1 40)] h_7) fun v_10 h_9 =>
          (mm_br (v_10 = (mm_i 0)) (
          mm_cI [] (cl 235 [.ref a0, .ref (E.2.2.1 41)] h_9) fun v_12 h_11 =>
            (mm_br (v_12 = (mm_i 0)) (
            mm_cI [] (cl 235 [.ref a0, .ref (E.2.2.1 28)] h_11) fun v_14 h_13 =>
              (mm_br (v_14 = (mm_i 0)) (
              mm_cI [] (cl 235 [.ref a0, .ref (E.2.2.1 42)] h_13) fun v_16 h_15 =>
                (mm_br (v_16 = (mm_i 0)) (
                mm_cI [] (cl 235 [.ref a0, .ref (E.2.2.1 43)] h_15) fun v_18 h_17 =>
                  (mm_br (v_18 = (mm_i 0)) (
                  mm_cI [] (cl 235 [.ref a0, .ref (E.2.2.1 44)] h_17) fun v_20 h_19 =>
                    (mm_br (v_20 = (mm_i 0)) (
                    mm_r254_105 E cl n a0 none (mm_i 0) h_19) (
                    mm_r254_105 E cl n a0 none (mm_i 1) h_19))) (
                  mm_r254_105 E cl n a0 none (mm_i 1) h_17))) (
                mm_r254_105 E cl n a0 none (mm_i 1) h_15))) (
              mm_r254_105 E cl n a0 none (mm_i 1) h_13))) (
            mm_r254_105 E cl n a0 none (mm_i 1) h_11))) (
          mm_r254_105 E cl n a0 none (mm_i 1) h_9))) (
        mm_r254_105 E cl n a0 none (mm_i 1) h_7))) (
      mm_r254_105 E cl n a0 none (mm_i 1) h_5))) (
    mm_r254_105 E cl n a0 none (mm_i 1) h_3))) (
  mm_r254_105 E cl n a0 none (mm_i 1) h_1)) := rfl
set_option maxRecDepth 20000 in
set_option maxHeartbeats 4000000 in
theorem mm_e254_105 (E : mm_E) (cl : mm_F) (n : Nat) (a0 : Nat) (o1 : Option Value) (s0 : Int32) (h : mm_H) :
  mm_r254_105 E cl (n + 1) a0 o1 s0 h =
  (mm_br (s0 = (mm_i 0)) (
  mm_cI [] (cl 235 [.ref a0, .ref (E.2.2.1 45)] h) fun v_2 h_1 =>
    (mm_br (v_2 = (mm_i 0)) (
    mm_cI [] (cl 235 [.ref a0, .ref (E.2.2.1 46)] h_1) fun v_4 h_3 =>
      (mm_br (v_4 = (mm_i 0)) (
      mm_cI [] (cl 235 [.ref a0, .ref (E.2.2.1 47)] h_3) fun v_6 h_5 =>
        (mm_br (v_6 = (mm_i 0)) (
        mm_cI [] (cl 235 [.ref a0, .ref (E.2.2.1 48)] h_5) fun v_8 h_7 =>
          (mm_br (v_8 = (mm_i 0)) (
          mm_cI [] (cl 235 [.ref a0, .ref (E.2.2.1 49)] h_7) fun v_10 h_9 =>
            (mm_br (v_10 = (mm_i 0)) (
            mm_cI [] (cl 235 [.ref a0, .ref (E.2.2.1 50)] h_9) fun v_12 h_11 =>
              (mm_br (v_12 = (mm_i 0)) (
              mm_cI [] (cl 235 [.ref a0, .ref (E.2.2.1 51)] h_11) fun v_14 h_13 =>
                (mm_br (v_14 = (mm_i 0)) (
                mm_cI [] (cl 235 [.ref a0, .ref (E.2.2.1 52)] h_13) fun v_16 h_15 =>
                  (mm_br (v_16 = (mm_i 0)) (
                  mm_cI [] (cl 235 [.ref a0, .ref (E.2.2.1 53)] h_15) fun v_18 h_17 =>
                    (mm_br (v_18 = (mm_i 0)) (
                    (mm_br ((mm_i 0) = (mm_i 0)) (
                      mm_cV [] (cl 233 [.ref a0, .int (mm_i 1)] h_17) fun h_19 =>
                        some (.inl (some (.int (mm_i 0))), h_19)) (
                      some (.inl (some (.int (mm_i 0))), h_17)))) (
                    mm_r254_200 E cl n a0 s0 h_17))) (
                  mm_r254_200 E cl n a0 s0 h_15))) (
                mm_r254_200 E cl n a0 s0 h_13))) (
              mm_r254_200 E cl n a0 s0 h_11))) (
            mm_r254_200 E cl n a0 s0 h_9))) (
          mm_r254_200 E cl n a0 s0 h_7))) (
        mm_r254_200 E cl n a0 s0 h_5))) (
      mm_r254_200 E cl n a0 s0 h_3))) (
    mm_r254_200 E cl n a0 s0 h_1))) (
  mm_r254_200 E cl n a0 s0 h)) := rfl
set_option maxRecDepth 20000 in
set_option maxHeartbeats 4000000 in
theorem mm_e254_200 (E : mm_E) (cl : mm_F) (n : Nat) (a0 : Nat) (x1 : Int32) (h : mm_H) :
  mm_r254_200 E cl (n + 1) a0 x1 h =
  (mm_br ((mm_i 1) = (mm_i 0)) (
  mm_cV [] (cl 233 [.ref a0, .int (mm_i 1)] h) fun h_1 =>
    some (.inl (some (.int (mm_i 0))), h_1)) (
  some (.inl (some (.int (mm_i 0))), h))) := rfl
-- Mod.readProduct
def mm_r255_0 (E : mm_E) (cl : mm_F) (n : Nat) (a0 : Nat) (h : mm_H) : mm_R := mm_run E cl mm_m255 n 0 [some (.ref a0), none] [] h
def mm_r255_5 (E : mm_E) (cl : mm_F) (n : Nat) (a0 : Nat) (x1 : Int32) (h : mm_H) : mm_R := mm_run E cl mm_m255 n 5 [some (.ref a0), some (.int x1)] [] h
set_option maxRecDepth 20000 in
set_option maxHeartbeats 4000000 in
theorem mm_e255_0 (E : mm_E) (cl : mm_F) (n : Nat) (a0 : Nat) (h : mm_H) :
  mm_r255_0 E cl (n + 1) a0 h =
  mm_cI [] (cl 253 [.ref a0] h) fun v_2 h_1 =>
  mm_r255_5 E cl n a0 v_2 h_1 := rfl
set_option maxRecDepth 20000 in
set_option maxHeartbeats 4000000 in
theorem mm_e255_5 (E : mm_E) (cl : mm_F) (n : Nat) (a0 : Nat) (x1 : Int32) (h : mm_H) :
  mm_r255_5 E cl (n + 1) a0 x1 h =
  mm_cI [] (cl 234 [.ref a0, .int (mm_i 42)] h) fun v_2 h_1 =>
  (mm_br (v_2 = (mm_i 0)) (
  some (.inl (some (.int x1)), h_1)) (
  mm_cV [] (cl 236 [.ref a0] h_1) fun h_3 =>
    mm_cI [] (cl 253 [.ref a0] h_3) fun v_5 h_4 =>
    mm_r255_5 E cl n a0 (x1 * v_5) h_4)) := rfl
-- Mod.readSum
def mm_r256_0 (E : mm_E) (cl : mm_F) (n : Nat) (a0 : Nat) (h : mm_H) : mm_R := mm_run E cl mm_m256 n 0 [some (.ref a0), none, none, none] [] h
def mm_r256_5 (E : mm_E) (cl : mm_F) (n : Nat) (a0 : Nat) (x1 : Int32) (o2 : Option Value) (o3 : Option Value) (h : mm_H) : mm_R := mm_run E cl mm_m256 n 5 [some (.ref a0), some (.int x1), o2, o3] [] h
set_option maxRecDepth 20000 in
set_option maxHeartbeats 4000000 in
theorem mm_e256_0 (E : mm_E) (cl : mm_F) (n : Nat) (a0 : Nat) (h : mm_H) :
  mm_r256_0 E cl (n + 1) a0 h =
  mm_cI [] (cl 255 [.ref a0] h) fun v_2 h_1 =>
  mm_r256_5 E cl n a0 v_2 none none h_1 := rfl
set_option maxRecDepth 20000 in
set_option maxHeartbeats 4000000 in
theorem mm_e256_5 (E : mm_E) (cl : mm_F) (n : Nat) (a0 : Nat) (x1 : Int32) (o2 : Option Value) (o3 : Option Value) (h : mm_H) :
  mm_r256_5 E cl (n + 1) a0 x1 o2 o3 h =
  mm_cI [] (cl 234 [.ref a0, .int (mm_i 43)] h) fun v_2 h_1 =>
  (mm_br (v_2 = (mm_i 0)) (
  mm_cI [] (cl 234 [.ref a0, .int (mm_i 45)] h_1) fun v_9 h_8 =>
    (mm_br (v_9 = (mm_i 0)) (
    some (.inl (some (.int x1)), h_8)) (
    mm_cI [] (cl 234 [.ref a0, .int (mm_i 43)] h_8) fun v_11 h_10 =>
      mm_cV [] (cl 236 [.ref a0] h_10) fun h_12 =>
      mm_cI [] (cl 255 [.ref a0] h_12) fun v_14 h_13 =>
      (mm_br (v_11 = (mm_i 0)) (
      mm_r256_5 E cl n a0 (x1 - v_14) (some (.int v_11)) (some (.int v_14)) h_13) (
      mm_r256_5 E cl n a0 (x1 + v_14) (some (.int v_11)) (some (.int v_14)) h_13))))) (
  mm_cI [] (cl 234 [.ref a0, .int (mm_i 43)] h_1) fun v_4 h_3 =>
    mm_cV [] (cl 236 [.ref a0] h_3) fun h_5 =>
    mm_cI [] (cl 255 [.ref a0] h_5) fun v_7 h_6 =>
    (mm_br (v_4 = (mm_i 0)) (
    mm_r256_5 E cl n a0 (x1 - v_7) (some (.int v_4)) (some (.int v_7)) h_6) (
    mm_r256_5 E cl n a0 (x1 + v_7) (some (.int v_4)) (some (.int v_7)) h_6)))) := rfl
-- Mod.readFact
def mm_r257_0 (E : mm_E) (cl : mm_F) (n : Nat) (a0 : Nat) (h : mm_H) : mm_R := mm_run E cl mm_m257 n 0 [some (.ref a0), none, none, none] [] h
def mm_r257_131 (E : mm_E) (cl : mm_F) (n : Nat) (a0 : Nat) (x1 : Int32) (x2 : Int32) (o3 : Option Value) (h : mm_H) : mm_R := mm_run E cl mm_m257 n 131 [some (.ref a0), some (.int x1), some (.int x2), o3] [] h
set_option maxRecDepth 20000 in
set_option maxHeartbeats 4000000 in
theorem mm_e257_0 (E : mm_E) (cl : mm_F) (n : Nat) (a0 : Nat) (h : mm_H) :
  mm_r257_0 E cl (n + 1) a0 h =
  mm_cI [] (cl 235 [.ref a0, .ref (E.2.2.1 36)] h) fun v_2 h_1 =>
  (mm_br (v_2 = (mm_i 0)) (
  mm_cI [] (cl 234 [.ref a0, .int (mm_i 123)] h_1) fun v_4 h_3 =>
    (mm_br (v_4 = (mm_i 0)) (
    mm_cI [] (cl 256 [.ref a0] h_3) fun v_6 h_5 =>
      mm_cI [] (cl 234 [.ref a0, .int (mm_i 60)] h_5) fun v_8 h_7 =>
      (mm_br (v_8 = (mm_i 0)) (
      mm_cI [] (cl 234 [.ref a0, .int (mm_i 61)] h_7) fun v_10 h_9 =>
        (mm_br (v_10 = (mm_i 0)) (
        mm_cI [] (cl 234 [.ref a0, .int (mm_i 62)] h_9) fun v_12 h_11 =>
          (mm_br (v_12 = (mm_i 0)) (
          (mm_br ((mm_i 2) = (mm_i 2)) (
            mm_cV [] (cl 233 [.ref a0, .int (mm_i 1)] h_11) fun h_13 =>
              mm_r257_131 E cl n a0 v_6 (mm_i 2) none h_13) (
            mm_r257_131 E cl n a0 v_6 (mm_i 2) none h_11))) (
          (mm_br ((mm_i 1) = (mm_i 2)) (
            mm_cV [] (cl 233 [.ref a0, .int (mm_i 1)] h_11) fun h_14 =>
              mm_r257_131 E cl n a0 v_6 (mm_i 1) none h_14) (
            mm_r257_131 E cl n a0 v_6 (mm_i 1) none h_11))))) (
        (mm_br ((mm_i 0) = (mm_i 2)) (
          mm_cV [] (cl 233 [.ref a0, .int (mm_i 1)] h_9) fun h_15 =>
            mm_r257_131 E cl n a0 v_6 (mm_i 0) none h_15) (
          mm_r257_131 E cl n a0 v_6 (mm_i 0) none h_9))))) (
      (mm_br ((mm_i (-1)) = (mm_i 2)) (
        mm_cV [] (cl 233 [.ref a0, .int (mm_i 1)] h_7) fun h_16 =>
          mm_r257_131 E cl n a0 v_6 (mm_i (-1)) none h_16) (
        mm_r257_131 E cl n a0 v_6 (mm_i (-1)) none h_7))))) (
    mm_cV [] (cl 252 [.ref a0] h_3) fun h_17 =>
      mm_cI [] (cl 259 [.ref a0] h_17) fun v_19 h_18 =>
      mm_cV [] (cl 237 [.ref a0, .int (mm_i 125)] h_18) fun h_20 =>
      mm_gI h_20 a0 9 35 fun v_21 =>
      mm_pF h_20 a0 9 35 (.int (v_21 - (mm_i 1))) fun h_22 =>
      (mm_bz v_19 (some (.inl (some (.int v_19)), h_22)))))) (
  mm_cV [] (cl 252 [.ref a0] h_1) fun h_23 =>
    mm_cI [] (cl 257 [.ref a0] h_23) fun v_25 h_24 =>
    mm_gI h_24 a0 9 35 fun v_26 =>
    mm_pF h_24 a0 9 35 (.int (v_26 - (mm_i 1))) fun h_27 =>
    (mm_br (v_25 = (mm_i 0)) (
    (mm_bz (mm_i 1) (some (.inl (some (.int (mm_i 1))), h_27)))) (
    (mm_bz (mm_i 0) (some (.inl (some (.int (mm_i 0))), h_27))))))) := rfl
set_option maxRecDepth 20000 in
set_option maxHeartbeats 4000000 in
theorem mm_e257_131 (E : mm_E) (cl : mm_F) (n : Nat) (a0 : Nat) (x1 : Int32) (x2 : Int32) (o3 : Option Value) (h : mm_H) :
  mm_r257_131 E cl (n + 1) a0 x1 x2 o3 h =
  mm_cV [] (cl 236 [.ref a0] h) fun h_1 =>
  mm_cI [] (cl 256 [.ref a0] h_1) fun v_3 h_2 =>
  (mm_br ((mm_i 0) ≤ x2) (
  (mm_br (x2 = (mm_i 0)) (
    (mm_br (x1 = v_3) (
      (mm_bz (mm_i 1) (some (.inl (some (.int (mm_i 1))), h_2)))) (
      (mm_bz (mm_i 0) (some (.inl (some (.int (mm_i 0))), h_2)))))) (
    (mm_br (x1 ≤ v_3) (
      (mm_bz (mm_i 0) (some (.inl (some (.int (mm_i 0))), h_2)))) (
      (mm_bz (mm_i 1) (some (.inl (some (.int (mm_i 1))), h_2)))))))) (
  (mm_br (v_3 ≤ x1) (
    (mm_bz (mm_i 0) (some (.inl (some (.int (mm_i 0))), h_2)))) (
    (mm_bz (mm_i 1) (some (.inl (some (.int (mm_i 1))), h_2))))))) := rfl
-- Mod.readBoth
def mm_r258_0 (E : mm_E) (cl : mm_F) (n : Nat) (a0 : Nat) (h : mm_H) : mm_R := mm_run E cl mm_m258 n 0 [some (.ref a0), none, none] [] h
def mm_r258_5 (E : mm_E) (cl : mm_F) (n : Nat) (a0 : Nat) (x1 : Int32) (o2 : Option Value) (h : mm_H) : mm_R := mm_run E cl mm_m258 n 5 [some (.ref a0), some (.int x1), o2] [] h
set_option maxRecDepth 20000 in
set_option maxHeartbeats 4000000 in
theorem mm_e258_0 (E : mm_E) (cl : mm_F) (n : Nat) (a0 : Nat) (h : mm_H) :
  mm_r258_0 E cl (n + 1) a0 h =
  mm_cI [] (cl 257 [.ref a0] h) fun v_2 h_1 =>
  mm_r258_5 E cl n a0 v_2 none h_1 := rfl
set_option maxRecDepth 20000 in
set_option maxHeartbeats 4000000 in
theorem mm_e258_5 (E : mm_E) (cl : mm_F) (n : Nat) (a0 : Nat) (x1 : Int32) (o2 : Option Value) (h : mm_H) :
  mm_r258_5 E cl (n + 1) a0 x1 o2 h =
  mm_cI [] (cl 235 [.ref a0, .ref (E.2.2.1 54)] h) fun v_2 h_1 =>
  (mm_br (v_2 = (mm_i 0)) (
  (mm_bz x1 (some (.inl (some (.int x1)), h_1)))) (
  mm_cV [] (cl 236 [.ref a0] h_1) fun h_3 =>
    mm_cI [] (cl 257 [.ref a0] h_3) fun v_5 h_4 =>
    (mm_br (x1 = (mm_i 0)) (
    mm_r258_5 E cl n a0 (mm_i 0) (some (.int v_5)) h_4) (
    (mm_br (v_5 = (mm_i 0)) (
      mm_r258_5 E cl n a0 (mm_i 0) (some (.int v_5)) h_4) (
      mm_r258_5 E cl n a0 (mm_i 1) (some (.int v_5)) h_4)))))) := rfl
-- Mod.readTest
def mm_r259_0 (E : mm_E) (cl : mm_F) (n : Nat) (a0 : Nat) (h : mm_H) : mm_R := mm_run E cl mm_m259 n 0 [some (.ref a0), none, none] [] h
def mm_r259_5 (E : mm_E) (cl : mm_F) (n : Nat) (a0 : Nat) (x1 : Int32) (o2 : Option Value) (h : mm_H) : mm_R := mm_run E cl mm_m259 n 5 [some (.ref a0), some (.int x1), o2] [] h
set_option maxRecDepth 20000 in
set_option maxHeartbeats 4000000 in
theorem mm_e259_0 (E : mm_E) (cl : mm_F) (n : Nat) (a0 : Nat) (h : mm_H) :
  mm_r259_0 E cl (n + 1) a0 h =
  mm_cI [] (cl 258 [.ref a0] h) fun v_2 h_1 =>
  mm_r259_5 E cl n a0 v_2 none h_1 := rfl
set_option maxRecDepth 20000 in
set_option maxHeartbeats 4000000 in
theorem mm_e259_5 (E : mm_E) (cl : mm_F) (n : Nat) (a0 : Nat) (x1 : Int32) (o2 : Option Value) (h : mm_H) :
  mm_r259_5 E cl (n + 1) a0 x1 o2 h =
  mm_cI [] (cl 235 [.ref a0, .ref (E.2.2.1 55)] h) fun v_2 h_1 =>
  (mm_br (v_2 = (mm_i 0)) (
  (mm_bz x1 (some (.inl (some (.int x1)), h_1)))) (
  mm_cV [] (cl 236 [.ref a0] h_1) fun h_3 =>
    mm_cI [] (cl 258 [.ref a0] h_3) fun v_5 h_4 =>
    (mm_br (x1 = (mm_i 0)) (
    (mm_br (v_5 = (mm_i 0)) (
      mm_r259_5 E cl n a0 (mm_i 0) (some (.int v_5)) h_4) (
      mm_r259_5 E cl n a0 (mm_i 1) (some (.int v_5)) h_4))) (
    mm_r259_5 E cl n a0 (mm_i 1) (some (.int v_5)) h_4)))) := rfl
-- Mod.readAll
def mm_r260_0 (E : mm_E) (cl : mm_F) (n : Nat) (a0 : Nat) (x1 : Int32) (x2 : Int32) (x3 : Int32) (h : mm_H) : mm_R := mm_run E cl mm_m260 n 0 [some (.ref a0), some (.int x1), some (.int x2), some (.int x3), none] [] h
def mm_r260_73 (E : mm_E) (cl : mm_F) (n : Nat) (a0 : Nat) (x1 : Int32) (x2 : Int32) (x3 : Int32) (o4 : Option Value) (b0 : Nat) (s1 : Int32) (h : mm_H) : mm_R := mm_run E cl mm_m260 n 73 [some (.ref a0), some (.int x1), some (.int x2), some (.int x3), o4] [.int s1, .ref b0] h
def mm_r260_99 (E : mm_E) (cl : mm_F) (n : Nat) (a0 : Nat) (x1 : Int32) (x2 : Int32) (x3 : Int32) (o4 : Option Value) (h : mm_H) : mm_R := mm_run E cl mm_m260 n 99 [some (.ref a0), some (.int x1), some (.int x2), some (.int x3), o4] [] h
def mm_r260_130 (E : mm_E) (cl : mm_F) (n : Nat) (a0 : Nat) (x1 : Int32) (x2 : Int32) (x3 : Int32) (o4 : Option Value) (s0 : Int32) (h : mm_H) : mm_R := mm_run E cl mm_m260 n 130 [some (.ref a0), some (.int x1), some (.int x2), some (.int x3), o4] [.int s0] h
set_option maxRecDepth 20000 in
set_option maxHeartbeats 4000000 in
theorem mm_e260_0 (E : mm_E) (cl : mm_F) (n : Nat) (a0 : Nat) (x1 : Int32) (x2 : Int32) (x3 : Int32) (h : mm_H) :
  mm_r260_0 E cl (n + 1) a0 x1 x2 x3 h =
  mm_pF h a0 9 36 (.int x2) fun h_1 =>
  (mm_bz x3 (
  mm_pF h_1 a0 9 37 (.int x3) fun h_2 =>
  mm_cV [] (cl 238 [.ref a0, .int x1] h_2) fun h_3 =>
  mm_cI [] (cl 235 [.ref a0, .ref (E.2.2.1 31)] h_3) fun v_5 h_4 =>
  (mm_br (v_5 = (mm_i 0)) (
  mm_cI [] (cl 235 [.ref a0, .ref (E.2.2.1 32)] h_4) fun v_7 h_6 =>
    (mm_br (v_7 = (mm_i 0)) (
    mm_cI [] (cl 235 [.ref a0, .ref (E.2.2.1 33)] h_6) fun v_9 h_8 =>
      (mm_br (v_9 = (mm_i 0)) (
      mm_cI [] (cl 235 [.ref a0, .ref (E.2.2.1 34)] h_8) fun v_11 h_10 =>
        (mm_br (v_11 = (mm_i 0)) (
        mm_r260_73 E cl n a0 x1 x2 x3 none a0 (mm_i 4) h_10) (
        mm_r260_73 E cl n a0 x1 x2 x3 none a0 (mm_i 3) h_10))) (
      mm_r260_73 E cl n a0 x1 x2 x3 none a0 (mm_i 2) h_8))) (
    mm_r260_73 E cl n a0 x1 x2 x3 none a0 (mm_i 1) h_6))) (
  mm_r260_73 E cl n a0 x1 x2 x3 none a0 (mm_i 0) h_4)))) := rfl
set_option maxRecDepth 20000 in
set_option maxHeartbeats 4000000 in
theorem mm_e260_73 (E : mm_E) (cl : mm_F) (n : Nat) (a0 : Nat) (x1 : Int32) (x2 : Int32) (x3 : Int32) (o4 : Option Value) (b0 : Nat) (s1 : Int32) (h : mm_H) :
  mm_r260_73 E cl (n + 1) a0 x1 x2 x3 o4 b0 s1 h =
  mm_pF h b0 9 38 (.int s1) fun h_1 =>
  mm_gI h_1 a0 9 38 fun v_2 =>
  (mm_br (v_2 = (mm_i 4)) (
  mm_cI [] (cl 235 [.ref a0, .ref (E.2.2.1 35)] h_1) fun v_4 h_3 =>
    (mm_br (v_4 = (mm_i 0)) (
    mm_cV [] (cl 233 [.ref a0, .int (mm_i 1)] h_3) fun h_5 =>
      mm_r260_99 E cl n a0 x1 x2 x3 o4 h_5) (
    mm_r260_99 E cl n a0 x1 x2 x3 o4 h_3))) (
  mm_r260_99 E cl n a0 x1 x2 x3 o4 h_1)) := rfl
set_option maxRecDepth 20000 in
set_option maxHeartbeats 4000000 in
theorem mm_e260_99 (E : mm_E) (cl : mm_F) (n : Nat) (a0 : Nat) (x1 : Int32) (x2 : Int32) (x3 : Int32) (o4 : Option Value) (h : mm_H) :
  mm_r260_99 E cl (n + 1) a0 x1 x2 x3 o4 h =
  mm_cV [] (cl 236 [.ref a0] h) fun h_1 =>
  mm_gI h_1 a0 9 38 fun v_2 =>
  (mm_br ((mm_i 2) ≤ v_2) (
  mm_cI [] (cl 256 [.ref a0] h_1) fun v_4 h_3 =>
    mm_r260_130 E cl n a0 x1 x2 x3 o4 v_4 h_3) (
  mm_cI [] (cl 259 [.ref a0] h_1) fun v_6 h_5 =>
    (mm_br (v_6 = (mm_i 0)) (
    mm_r260_130 E cl n a0 x1 x2 x3 o4 (mm_i 0) h_5) (
    mm_r260_130 E cl n a0 x1 x2 x3 o4 (mm_i 1) h_5)))) := rfl
set_option maxRecDepth 20000 in
set_option maxHeartbeats 4000000 in
theorem mm_e260_130 (E : mm_E) (cl : mm_F) (n : Nat) (a0 : Nat) (x1 : Int32) (x2 : Int32) (x3 : Int32) (o4 : Option Value) (s0 : Int32) (h : mm_H) :
  mm_r260_130 E cl (n + 1) a0 x1 x2 x3 o4 s0 h =
  mm_gI h a0 9 32 fun v_1 =>
  (mm_br (v_1 = (mm_i 0)) (
  mm_gI h a0 9 29 fun v_2 =>
    (mm_br (v_2 = (mm_i 0)) (
    some (.inl (some (.int s0)), h)) (
    mm_cV [] (cl 233 [.ref a0, .int (mm_i 1)] h) fun h_3 =>
      some (.inl (some (.int s0)), h_3)))) (
  some (.inl (some (.int s0)), h))) := rfl
-- Mod.ask
def mm_r261_0 (E : mm_E) (cl : mm_F) (n : Nat) (a0 : Nat) (x1 : Int32) (h : mm_H) : mm_R := mm_run E cl mm_m261 n 0 [some (.ref a0), some (.int x1), none, none, none, none, none] [] h
def mm_r261_71 (E : mm_E) (cl : mm_F) (n : Nat) (a0 : Nat) (x1 : Int32) (x2 : Int32) (x3 : Int32) (x4 : Int32) (x5 : Int32) (o6 : Option Value) (h : mm_H) : mm_R := mm_run E cl mm_m261 n 71 [some (.ref a0), some (.int x1), some (.int x2), some (.int x3), some (.int x4), some (.int x5), o6] [] h
set_option maxRecDepth 20000 in
set_option maxHeartbeats 4000000 in
theorem mm_e261_0 (E : mm_E) (cl : mm_F) (n : Nat) (a0 : Nat) (x1 : Int32) (h : mm_H) :
  mm_r261_0 E cl (n + 1) a0 x1 h =
  mm_pF h a0 9 0 (.int (mm_i 0)) fun h_1 =>
  (mm_br (x1 < (mm_i 0)) (
  mm_cI [] (cl 146 [.ref a0, .int (mm_i 1)] h_1) fun v_3 h_2 =>
    some (.inl (some (.int v_3)), h_2)) (
  mm_gI h_1 a0 9 26 fun v_4 =>
    (mm_br (v_4 < x1) (
    mm_cI [] (cl 146 [.ref a0, .int (mm_i 1)] h_1) fun v_6 h_5 =>
      some (.inl (some (.int v_6)), h_5)) (
    (mm_br (x1 ≤ (mm_i 200)) (
      mm_cI [] (cl 260 [.ref a0, .int x1, .int (mm_i 0), .int (mm_i 0)] h_1) fun v_8 h_7 =>
        mm_cI [] (cl 240 [.ref a0] h_7) fun v_10 h_9 =>
        (mm_br (v_10 = (mm_i 0)) (
        mm_gI h_9 a0 9 38 fun v_11 =>
          (mm_br (v_11 = (mm_i 1)) (
          mm_r261_71 E cl n a0 x1 v_8 v_10 (mm_i (-1)) (mm_i 0) none h_9) (
          mm_r261_71 E cl n a0 x1 v_8 v_10 (mm_i 0) (mm_i 0) none h_9))) (
        some (.inl (some (.int ((mm_i (-1000000000)) - v_10))), h_9)))) (
      mm_cI [] (cl 146 [.ref a0, .int (mm_i 1)] h_1) fun v_13 h_12 =>
        some (.inl (some (.int v_13)), h_12))))))) := rfl
set_option maxRecDepth 20000 in
set_option maxHeartbeats 4000000 in
theorem mm_e261_71 (E : mm_E) (cl : mm_F) (n : Nat) (a0 : Nat) (x1 : Int32) (x2 : Int32) (x3 : Int32) (x4 : Int32) (x5 : Int32) (o6 : Option Value) (h : mm_H) :
  mm_r261_71 E cl (n + 1) a0 x1 x2 x3 x4 x5 o6 h =
  mm_cI [] (cl 150 [.ref a0] h) fun v_2 h_1 =>
  (mm_br (v_2 ≤ x5) (
  some (.inl (some (.int x4)), h_1)) (
  mm_cI [] (cl 260 [.ref a0, .int x1, .int x5, .int (mm_i 1)] h_1) fun v_4 h_3 =>
    mm_gI h_3 a0 9 38 fun v_5 =>
    (mm_br (v_5 = (mm_i 1)) (
    (mm_br (x4 = (mm_i (-1))) (
      (mm_br (v_4 = (mm_i 1)) (
        mm_r261_71 E cl n a0 x1 x2 x3 x5 (x5 + (mm_i 1)) (some (.int v_4)) h_3) (
        mm_r261_71 E cl n a0 x1 x2 x3 x4 (x5 + (mm_i 1)) (some (.int v_4)) h_3))) (
      mm_r261_71 E cl n a0 x1 x2 x3 x4 (x5 + (mm_i 1)) (some (.int v_4)) h_3))) (
    mm_gI h_3 a0 9 38 fun v_6 =>
      (mm_br ((mm_i 3) ≤ v_6) (
      (mm_br (x5 = (mm_i 0)) (
        mm_r261_71 E cl n a0 x1 x2 x3 v_4 (x5 + (mm_i 1)) (some (.int v_4)) h_3) (
        mm_gI h_3 a0 9 38 fun v_7 =>
          (mm_br (v_7 = (mm_i 3)) (
          (mm_br (v_4 ≤ x4) (
            mm_r261_71 E cl n a0 x1 x2 x3 x4 (x5 + (mm_i 1)) (some (.int v_4)) h_3) (
            mm_r261_71 E cl n a0 x1 x2 x3 v_4 (x5 + (mm_i 1)) (some (.int v_4)) h_3))) (
          (mm_br (x4 ≤ v_4) (
            mm_r261_71 E cl n a0 x1 x2 x3 x4 (x5 + (mm_i 1)) (some (.int v_4)) h_3) (
            mm_r261_71 E cl n a0 x1 x2 x3 v_4 (x5 + (mm_i 1)) (some (.int v_4)) h_3))))))) (
      mm_r261_71 E cl n a0 x1 x2 x3 (x4 + v_4) (x5 + (mm_i 1)) (some (.int v_4)) h_3)))))) := rfl
-- Law.network
def mm_r262_0 (E : mm_E) (cl : mm_F) (n : Nat) (a0 : Nat) (x1 : Int32) (a2 : Nat) (h : mm_H) : mm_R := mm_run E cl mm_m262 n 0 [some (.ref a0), some (.int x1), some (.ref a2), none] [] h
set_option maxRecDepth 20000 in
set_option maxHeartbeats 4000000 in
theorem mm_e262_0 (E : mm_E) (cl : mm_F) (n : Nat) (a0 : Nat) (x1 : Int32) (a2 : Nat) (h : mm_H) :
  mm_r262_0 E cl (n + 1) a0 x1 a2 h =
  mm_cI [(1, 1)] (cl 103 [.ref a0, .int x1] h) fun v_2 h_1 =>
  mm_wJ h_1 a2 (mm_i 0) (Int32.toInt64 v_2) fun h_3 =>
  some (.inl (some (.int (mm_i 0))), h_3) := rfl
-- Law.count
def mm_r263_0 (E : mm_E) (cl : mm_F) (n : Nat) (a0 : Nat) (x1 : Int32) (a2 : Nat) (h : mm_H) : mm_R := mm_run E cl mm_m263 n 0 [some (.ref a0), some (.int x1), some (.ref a2), none] [] h
set_option maxRecDepth 20000 in
set_option maxHeartbeats 4000000 in
theorem mm_e263_0 (E : mm_E) (cl : mm_F) (n : Nat) (a0 : Nat) (x1 : Int32) (a2 : Nat) (h : mm_H) :
  mm_r263_0 E cl (n + 1) a0 x1 a2 h =
  mm_cI [(0, 1)] (cl 105 [.ref a0, .int x1] h) fun v_2 h_1 =>
  mm_wJ h_1 a2 (mm_i 0) (Int32.toInt64 v_2) fun h_3 =>
  some (.inl (some (.int (mm_i 0))), h_3) := rfl
-- Law.letter
def mm_r264_0 (E : mm_E) (cl : mm_F) (n : Nat) (a0 : Nat) (x1 : Int32) (x2 : Int32) (a3 : Nat) (h : mm_H) : mm_R := mm_run E cl mm_m264 n 0 [some (.ref a0), some (.int x1), some (.int x2), some (.ref a3), none] [] h
set_option maxRecDepth 20000 in
set_option maxHeartbeats 4000000 in
theorem mm_e264_0 (E : mm_E) (cl : mm_F) (n : Nat) (a0 : Nat) (x1 : Int32) (x2 : Int32) (a3 : Nat) (h : mm_H) :
  mm_r264_0 E cl (n + 1) a0 x1 x2 a3 h =
  mm_cI [(0, 1)] (cl 106 [.ref a0, .int x1, .int x2] h) fun v_2 h_1 =>
  mm_wJ h_1 a3 (mm_i 0) (Int32.toInt64 v_2) fun h_3 =>
  some (.inl (some (.int (mm_i 0))), h_3) := rfl
-- Law.stage
def mm_r265_0 (E : mm_E) (cl : mm_F) (n : Nat) (a0 : Nat) (x1 : Int32) (x2 : Int32) (a3 : Nat) (h : mm_H) : mm_R := mm_run E cl mm_m265 n 0 [some (.ref a0), some (.int x1), some (.int x2), some (.ref a3), none] [] h
set_option maxRecDepth 20000 in
set_option maxHeartbeats 4000000 in
theorem mm_e265_0 (E : mm_E) (cl : mm_F) (n : Nat) (a0 : Nat) (x1 : Int32) (x2 : Int32) (a3 : Nat) (h : mm_H) :
  mm_r265_0 E cl (n + 1) a0 x1 x2 a3 h =
  mm_cI [(0, 1)] (cl 107 [.ref a0, .int x1, .int x2] h) fun v_2 h_1 =>
  mm_wJ h_1 a3 (mm_i 0) (Int32.toInt64 v_2) fun h_3 =>
  some (.inl (some (.int (mm_i 0))), h_3) := rfl
-- Law.bound
def mm_r266_0 (E : mm_E) (cl : mm_F) (n : Nat) (a0 : Nat) (x1 : Int32) (x2 : Int32) (x3 : Int32) (a4 : Nat) (h : mm_H) : mm_R := mm_run E cl mm_m266 n 0 [some (.ref a0), some (.int x1), some (.int x2), some (.int x3), some (.ref a4), none] [] h
set_option maxRecDepth 20000 in
set_option maxHeartbeats 4000000 in
theorem mm_e266_0 (E : mm_E) (cl : mm_F) (n : Nat) (a0 : Nat) (x1 : Int32) (x2 : Int32) (x3 : Int32) (a4 : Nat) (h : mm_H) :
  mm_r266_0 E cl (n + 1) a0 x1 x2 x3 a4 h =
  mm_cI [(0, 1), (1, 2)] (cl 108 [.ref a0, .int x1, .int x2, .int x3] h) fun v_2 h_1 =>
  mm_wJ h_1 a4 (mm_i 0) (Int32.toInt64 v_2) fun h_3 =>
  some (.inl (some (.int (mm_i 0))), h_3) := rfl
-- Law.change
def mm_r267_0 (E : mm_E) (cl : mm_F) (n : Nat) (a0 : Nat) (x1 : Int32) (x2 : Int32) (x3 : Int32) (a4 : Nat) (h : mm_H) : mm_R := mm_run E cl mm_m267 n 0 [some (.ref a0), some (.int x1), some (.int x2), some (.int x3), some (.ref a4), none] [] h
set_option maxRecDepth 20000 in
set_option maxHeartbeats 4000000 in
theorem mm_e267_0 (E : mm_E) (cl : mm_F) (n : Nat) (a0 : Nat) (x1 : Int32) (x2 : Int32) (x3 : Int32) (a4 : Nat) (h : mm_H) :
  mm_r267_0 E cl (n + 1) a0 x1 x2 x3 a4 h =
  mm_cI [(0, 1), (1, 2)] (cl 109 [.ref a0, .int x1, .int x2, .int x3] h) fun v_2 h_1 =>
  mm_wJ h_1 a4 (mm_i 0) (Int32.toInt64 v_2) fun h_3 =>
  some (.inl (some (.int (mm_i 0))), h_3) := rfl
-- Law.pin
def mm_r268_0 (E : mm_E) (cl : mm_F) (n : Nat) (a0 : Nat) (x1 : Int32) (x2 : Int32) (a3 : Nat) (h : mm_H) : mm_R := mm_run E cl mm_m268 n 0 [some (.ref a0), some (.int x1), some (.int x2), some (.ref a3), none] [] h
set_option maxRecDepth 20000 in
set_option maxHeartbeats 4000000 in
theorem mm_e268_0 (E : mm_E) (cl : mm_F) (n : Nat) (a0 : Nat) (x1 : Int32) (x2 : Int32) (a3 : Nat) (h : mm_H) :
  mm_r268_0 E cl (n + 1) a0 x1 x2 a3 h =
  mm_cI [(0, 1), (1, 2)] (cl 112 [.ref a0, .int x1, .int x2] h) fun v_2 h_1 =>
  mm_wJ h_1 a3 (mm_i 0) (Int32.toInt64 v_2) fun h_3 =>
  some (.inl (some (.int (mm_i 0))), h_3) := rfl
-- Law.promise
def mm_r269_0 (E : mm_E) (cl : mm_F) (n : Nat) (a0 : Nat) (x1 : Int32) (x2 : Int32) (a3 : Nat) (h : mm_H) : mm_R := mm_run E cl mm_m269 n 0 [some (.ref a0), some (.int x1), some (.int x2), some (.ref a3), none] [] h
set_option maxRecDepth 20000 in
set_option maxHeartbeats 4000000 in
theorem mm_e269_0 (E : mm_E) (cl : mm_F) (n : Nat) (a0 : Nat) (x1 : Int32) (x2 : Int32) (a3 : Nat) (h : mm_H) :
  mm_r269_0 E cl (n + 1) a0 x1 x2 a3 h =
  mm_cI [(0, 1), (1, 2)] (cl 115 [.ref a0, .int x1, .int x2] h) fun v_2 h_1 =>
  mm_wJ h_1 a3 (mm_i 0) (Int32.toInt64 v_2) fun h_3 =>
  some (.inl (some (.int (mm_i 0))), h_3) := rfl
-- Law.planned
def mm_r270_0 (E : mm_E) (cl : mm_F) (n : Nat) (a0 : Nat) (x1 : Int32) (x2 : Int32) (a3 : Nat) (h : mm_H) : mm_R := mm_run E cl mm_m270 n 0 [some (.ref a0), some (.int x1), some (.int x2), some (.ref a3), none] [] h
set_option maxRecDepth 20000 in
set_option maxHeartbeats 4000000 in
theorem mm_e270_0 (E : mm_E) (cl : mm_F) (n : Nat) (a0 : Nat) (x1 : Int32) (x2 : Int32) (a3 : Nat) (h : mm_H) :
  mm_r270_0 E cl (n + 1) a0 x1 x2 a3 h =
  mm_cI [(0, 1)] (cl 116 [.ref a0, .int x1, .int x2] h) fun v_2 h_1 =>
  mm_wJ h_1 a3 (mm_i 0) (Int32.toInt64 v_2) fun h_3 =>
  some (.inl (some (.int (mm_i 0))), h_3) := rfl
-- Law.plan
def mm_r271_0 (E : mm_E) (cl : mm_F) (n : Nat) (a0 : Nat) (x1 : Int32) (a2 : Nat) (h : mm_H) : mm_R := mm_run E cl mm_m271 n 0 [some (.ref a0), some (.int x1), some (.ref a2), none] [] h
set_option maxRecDepth 20000 in
set_option maxHeartbeats 4000000 in
theorem mm_e271_0 (E : mm_E) (cl : mm_F) (n : Nat) (a0 : Nat) (x1 : Int32) (a2 : Nat) (h : mm_H) :
  mm_r271_0 E cl (n + 1) a0 x1 a2 h =
  mm_cI [(0, 1)] (cl 117 [.ref a0, .int x1] h) fun v_2 h_1 =>
  mm_wJ h_1 a2 (mm_i 0) (Int32.toInt64 v_2) fun h_3 =>
  some (.inl (some (.int (mm_i 0))), h_3) := rfl
-- Law.worth
def mm_r272_0 (E : mm_E) (cl : mm_F) (n : Nat) (a0 : Nat) (x1 : Int32) (x2 : Int32) (a3 : Nat) (h : mm_H) : mm_R := mm_run E cl mm_m272 n 0 [some (.ref a0), some (.int x1), some (.int x2), some (.ref a3), none] [] h
set_option maxRecDepth 20000 in
set_option maxHeartbeats 4000000 in
theorem mm_e272_0 (E : mm_E) (cl : mm_F) (n : Nat) (a0 : Nat) (x1 : Int32) (x2 : Int32) (a3 : Nat) (h : mm_H) :
  mm_r272_0 E cl (n + 1) a0 x1 x2 a3 h =
  mm_cI [(0, 1)] (cl 119 [.ref a0, .int x1, .int x2] h) fun v_2 h_1 =>
  mm_wJ h_1 a3 (mm_i 0) (Int32.toInt64 v_2) fun h_3 =>
  some (.inl (some (.int (mm_i 0))), h_3) := rfl
-- Law.even
def mm_r273_0 (E : mm_E) (cl : mm_F) (n : Nat) (a0 : Nat) (x1 : Int32) (a2 : Nat) (h : mm_H) : mm_R := mm_run E cl mm_m273 n 0 [some (.ref a0), some (.int x1), some (.ref a2), none] [] h
set_option maxRecDepth 20000 in
set_option maxHeartbeats 4000000 in
theorem mm_e273_0 (E : mm_E) (cl : mm_F) (n : Nat) (a0 : Nat) (x1 : Int32) (a2 : Nat) (h : mm_H) :
  mm_r273_0 E cl (n + 1) a0 x1 a2 h =
  mm_cI [(1, 1)] (cl 120 [.ref a0, .int x1] h) fun v_2 h_1 =>
  mm_wJ h_1 a2 (mm_i 0) (Int32.toInt64 v_2) fun h_3 =>
  some (.inl (some (.int (mm_i 0))), h_3) := rfl
-- Law.pinned
def mm_r274_0 (E : mm_E) (cl : mm_F) (n : Nat) (a0 : Nat) (x1 : Int32) (x2 : Int32) (a3 : Nat) (h : mm_H) : mm_R := mm_run E cl mm_m274 n 0 [some (.ref a0), some (.int x1), some (.int x2), some (.ref a3), none] [] h
set_option maxRecDepth 20000 in
set_option maxHeartbeats 4000000 in
theorem mm_e274_0 (E : mm_E) (cl : mm_F) (n : Nat) (a0 : Nat) (x1 : Int32) (x2 : Int32) (a3 : Nat) (h : mm_H) :
  mm_r274_0 E cl (n + 1) a0 x1 x2 a3 h =
  mm_cI [(0, 1), (1, 2)] (cl 122 [.ref a0, .int x1, .int x2] h) fun v_2 h_1 =>
  mm_wJ h_1 a3 (mm_i 0) (Int32.toInt64 v_2) fun h_3 =>
  some (.inl (some (.int (mm_i 0))), h_3) := rfl
-- Law.demand
def mm_r275_0 (E : mm_E) (cl : mm_F) (n : Nat) (a0 : Nat) (x1 : Int32) (x2 : Int32) (x3 : Int32) (a4 : Nat) (h : mm_H) : mm_R := mm_run E cl mm_m275 n 0 [some (.ref a0), some (.int x1), some (.int x2), some (.int x3), some (.ref a4), none] [] h
set_option maxRecDepth 20000 in
set_option maxHeartbeats 4000000 in
theorem mm_e275_0 (E : mm_E) (cl : mm_F) (n : Nat) (a0 : Nat) (x1 : Int32) (x2 : Int32) (x3 : Int32) (a4 : Nat) (h : mm_H) :
  mm_r275_0 E cl (n + 1) a0 x1 x2 x3 a4 h =
  mm_cI [(0, 1), (1, 2)] (cl 123 [.ref a0, .int x1, .int x2, .int x3] h) fun v_2 h_1 =>
  mm_wJ h_1 a4 (mm_i 0) (Int32.toInt64 v_2) fun h_3 =>
  some (.inl (some (.int (mm_i 0))), h_3) := rfl
-- Law.drawn
def mm_r276_0 (E : mm_E) (cl : mm_F) (n : Nat) (a0 : Nat) (x1 : Int32) (x2 : Int32) (a3 : Nat) (h : mm_H) : mm_R := mm_run E cl mm_m276 n 0 [some (.ref a0), some (.int x1), some (.int x2), some (.ref a3), none] [] h
set_option maxRecDepth 20000 in
set_option maxHeartbeats 4000000 in
theorem mm_e276_0 (E : mm_E) (cl : mm_F) (n : Nat) (a0 : Nat) (x1 : Int32) (x2 : Int32) (a3 : Nat) (h : mm_H) :
  mm_r276_0 E cl (n + 1) a0 x1 x2 a3 h =
  mm_cI [(0, 1)] (cl 124 [.ref a0, .int x1, .int x2] h) fun v_2 h_1 =>
  mm_wJ h_1 a3 (mm_i 0) (Int32.toInt64 v_2) fun h_3 =>
  some (.inl (some (.int (mm_i 0))), h_3) := rfl
-- Law.day
def mm_r277_0 (E : mm_E) (cl : mm_F) (n : Nat) (a0 : Nat) (x1 : Int32) (x2 : Int32) (x3 : Int32) (a4 : Nat) (h : mm_H) : mm_R := mm_run E cl mm_m277 n 0 [some (.ref a0), some (.int x1), some (.int x2), some (.int x3), some (.ref a4), none] [] h
set_option maxRecDepth 20000 in
set_option maxHeartbeats 4000000 in
theorem mm_e277_0 (E : mm_E) (cl : mm_F) (n : Nat) (a0 : Nat) (x1 : Int32) (x2 : Int32) (x3 : Int32) (a4 : Nat) (h : mm_H) :
  mm_r277_0 E cl (n + 1) a0 x1 x2 x3 a4 h =
  mm_cI [(0, 1)] (cl 125 [.ref a0, .int x1, .int x2, .int x3] h) fun v_2 h_1 =>
  mm_wJ h_1 a4 (mm_i 0) (Int32.toInt64 v_2) fun h_3 =>
  some (.inl (some (.int (mm_i 0))), h_3) := rfl
