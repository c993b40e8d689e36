/-! EQUATIONS of the runs (by program: wip/whole/eqgen.py) -/
-- Mod.plannedOf
set_option maxRecDepth 20000 in
set_option maxHeartbeats 4000000 in
theorem mm_e251_99 (E : mm_E) (cl : mm_F) (n : Nat) (a0 : Nat) (x1 : Int32) (x2 : Int32) (x3 : Int32) (h : mm_H) :
  mm_run E cl mm_m251 (n + 1) 99 [some (.ref a0), some (.int x1), some (.int x2), some (.int x3)] [] h =
  mm_gI h a0 9 32 fun v_1 =>
  (mm_br (v_1 = 0) (
  mm_gI h a0 9 36 fun v_2 =>
    mm_cI [] (cl 180 [.ref a0, .int v_2] h) fun v_4 h_3 =>
    (mm_br (0 ≤ v_4) (
    (mm_br (x2 = 0) (
      (mm_br (x3 = 0) (
        mm_gI h_3 a0 9 36 fun v_5 =>
          mm_cI [] (cl 152 [.ref a0, .int v_5, .int 1] h_3) fun v_7 h_6 =>
          mm_gI h_6 a0 9 36 fun v_8 =>
          mm_cI [] (cl 183 [.ref a0, .int v_8] h_6) fun v_10 h_9 =>
          some (.inl (some (.int (v_7 * v_10))), h_9)) (
        mm_gI h_3 a0 9 36 fun v_11 =>
          mm_gI h_3 a0 9 36 fun v_12 =>
          mm_cI [] (cl 180 [.ref a0, .int v_12] h_3) fun v_14 h_13 =>
          mm_cI [] (cl 166 [.ref a0, .int v_11, .int v_14] h_13) fun v_16 h_15 =>
          some (.inl (some (.int v_16)), h_15)))) (
      mm_gI h_3 a0 9 36 fun v_17 =>
        mm_cI [] (cl 183 [.ref a0, .int v_17] h_3) fun v_19 h_18 =>
        some (.inl (some (.int v_19)), h_18)))) (
    some (.inl (some (.int (-1))), h_3)))) (
  some (.inl (some (.int (-1))), h))) := rfl
-- Mod.goesIn
set_option maxRecDepth 20000 in
set_option maxHeartbeats 4000000 in
theorem mm_e252_0 (E : mm_E) (cl : mm_F) (n : Nat) (a0 : Nat) (h : mm_H) :
  mm_run E cl mm_m252 (n + 1) 0 [some (.ref a0)] [] h =
  mm_gI h a0 9 32 fun v_1 =>
  (mm_br (v_1 = 0) (
  mm_gI h a0 9 35 fun v_5 =>
    (mm_br (v_5 = 6) (
    mm_cV [] (cl 233 [.ref a0, .int 3] h) fun h_9 =>
      mm_gI h_9 a0 9 35 fun v_10 =>
      mm_pF h_9 a0 9 35 (.int (v_10 + 1)) fun h_11 =>
      mm_cV [] (cl 236 [.ref a0] h_11) fun h_12 =>
      some (.inl none, h_12)) (
    mm_gI h a0 9 35 fun v_6 =>
      mm_pF h a0 9 35 (.int (v_6 + 1)) fun h_7 =>
      mm_cV [] (cl 236 [.ref a0] h_7) fun h_8 =>
      some (.inl none, h_8)))) (
  mm_gI h a0 9 35 fun v_2 =>
    mm_pF h a0 9 35 (.int (v_2 + 1)) fun h_3 =>
    mm_cV [] (cl 236 [.ref a0] h_3) fun h_4 =>
    some (.inl none, h_4))) := rfl
-- Mod.readPart
set_option maxRecDepth 20000 in
set_option maxHeartbeats 4000000 in
theorem mm_e253_0 (E : mm_E) (cl : mm_F) (n : Nat) (a0 : Nat) (h : mm_H) :
  mm_run E cl mm_m253 (n + 1) 0 [some (.ref a0), none] [] h =
  mm_gI h a0 9 32 fun v_1 =>
  (mm_br (v_1 = 0) (
  mm_gI h a0 9 29 fun v_2 =>
    (mm_br (v_2 = 2) (
    mm_cI [] (cl 239 [.ref a0, .int 9999] h) fun v_19 h_18 =>
      some (.inl (some (.int v_19)), h_18)) (
    mm_cI [] (cl 234 [.ref a0, .int 40] h) fun v_4 h_3 =>
      (mm_br (v_4 = 0) (
      mm_gI h_3 a0 9 37 fun v_5 =>
        (mm_br (v_5 = 0) (
        mm_cI [] (cl 254 [.ref a0] h_3) fun v_7 h_6 =>
          mm_cV [] (cl 236 [.ref a0] h_6) fun h_8 =>
          some (.inl (some (.int v_7)), h_8)) (
        mm_cI [] (cl 249 [.ref a0] h_3) fun v_10 h_9 =>
          mm_cV [] (cl 236 [.ref a0] h_9) fun h_11 =>
          some (.inl (some (.int v_10)), h_11)))) (
      mm_cV [] (cl 252 [.ref a0] h_3) fun h_12 =>
        mm_cI [] (cl 256 [.ref a0] h_12) fun v_14 h_13 =>
        mm_cV [] (cl 237 [.ref a0, .int 41] h_13) fun h_15 =>
        mm_gI h_15 a0 9 35 fun v_16 =>
        mm_pF h_15 a0 9 35 (.int (v_16 - 1)) fun h_17 =>
        some (.inl (some (.int v_14)), h_17)))))) (
  some (.inl (some (.int 0)), h))) := rfl
-- Mod.lookAtWord
set_option maxRecDepth 20000 in
set_option maxHeartbeats 4000000 in
theorem mm_e254_0 (E : mm_E) (cl : mm_F) (n : Nat) (a0 : Nat) (h : mm_H) :
  mm_run E cl mm_m254 (n + 1) 0 [some (.ref a0), none] [] h =
  mm_cI [] (cl 235 [.ref a0, .ref (E.2.2.1 37)] h) fun v_2 h_1 =>
  (mm_br (v_2 = 0) (
  mm_cI [] (cl 235 [.ref a0, .ref (E.2.2.1 38)] h_1) fun v_4 h_3 =>
    (mm_br (v_4 = 0) (
    mm_cI [] (cl 235 [.ref a0, .ref (E.2.2.1 39)] h_3) fun v_6 h_5 =>
      (mm_br (v_6 = 0) (
      mm_cI [] (cl 235 [.ref a0, .ref (E.2.2.1 26)] h_5) fun v_8 h_7 =>
        (mm_br (v_8 = 0) (
        mm_cI [] (cl 235 [.ref a0, .ref (E.2.2.1 40)] h_7) fun v_10 h_9 =>
          (mm_br (v_10 = 0) (
          mm_cI [] (cl 235 [.ref a0, .ref (E.2.2.1 41)] h_9) fun v_12 h_11 =>
            (mm_br (v_12 = 0) (
            mm_cI [] (cl 235 [.ref a0, .ref (E.2.2.1 28)] h_11) fun v_14 h_13 =>
              (mm_br (v_14 = 0) (
              mm_cI [] (cl 235 [.ref a0, .ref (E.2.2.1 42)] h_13) fun v_16 h_15 =>
                (mm_br (v_16 = 0) (
                mm_cI [] (cl 235 [.ref a0, .ref (E.2.2.1 43)] h_15) fun v_18 h_17 =>
                  (mm_br (v_18 = 0) (
                  mm_cI [] (cl 235 [.ref a0, .ref (E.2.2.1 44)] h_17) fun v_20 h_19 =>
                    (mm_br (v_20 = 0) (
                    mm_run E cl mm_m254 n 105 [some (.ref a0), none] [.int 0] h_19) (
                    mm_run E cl mm_m254 n 105 [some (.ref a0), none] [.int 1] h_19))) (
                  mm_run E cl mm_m254 n 105 [some (.ref a0), none] [.int 1] h_17))) (
                mm_run E cl mm_m254 n 105 [some (.ref a0), none] [.int 1] h_15))) (
              mm_run E cl mm_m254 n 105 [some (.ref a0), none] [.int 1] h_13))) (
            mm_run E cl mm_m254 n 105 [some (.ref a0), none] [.int 1] h_11))) (
          mm_run E cl mm_m254 n 105 [some (.ref a0), none] [.int 1] h_9))) (
        mm_run E cl mm_m254 n 105 [some (.ref a0), none] [.int 1] h_7))) (
      mm_run E cl mm_m254 n 105 [some (.ref a0), none] [.int 1] h_5))) (
    mm_run E cl mm_m254 n 105 [some (.ref a0), none] [.int 1] h_3))) (
  mm_run E cl mm_m254 n 105 [some (.ref a0), none] [.int 1] h_1)) := rfl
-- Mod.lookAtWord
set_option maxRecDepth 20000 in
set_option maxHeartbeats 4000000 in
theorem mm_e254_105 (E : mm_E) (cl : mm_F) (n : Nat) (a0 : Nat) (o1 : Option Value) (s0 : Int32) (h : mm_H) :
  mm_run E cl mm_m254 (n + 1) 105 [some (.ref a0), o1] [.int s0] h =
  (mm_br (s0 = 0) (
  mm_cI [] (cl 235 [.ref a0, .ref (E.2.2.1 45)] h) fun v_2 h_1 =>
    (mm_br (v_2 = 0) (
    mm_cI [] (cl 235 [.ref a0, .ref (E.2.2.1 46)] h_1) fun v_4 h_3 =>
      (mm_br (v_4 = 0) (
      mm_cI [] (cl 235 [.ref a0, .ref (E.2.2.1 47)] h_3) fun v_6 h_5 =>
        (mm_br (v_6 = 0) (
        mm_cI [] (cl 235 [.ref a0, .ref (E.2.2.1 48)] h_5) fun v_8 h_7 =>
          (mm_br (v_8 = 0) (
          mm_cI [] (cl 235 [.ref a0, .ref (E.2.2.1 49)] h_7) fun v_10 h_9 =>
            (mm_br (v_10 = 0) (
            mm_cI [] (cl 235 [.ref a0, .ref (E.2.2.1 50)] h_9) fun v_12 h_11 =>
              (mm_br (v_12 = 0) (
              mm_cI [] (cl 235 [.ref a0, .ref (E.2.2.1 51)] h_11) fun v_14 h_13 =>
                (mm_br (v_14 = 0) (
                mm_cI [] (cl 235 [.ref a0, .ref (E.2.2.1 52)] h_13) fun v_16 h_15 =>
                  (mm_br (v_16 = 0) (
                  mm_cI [] (cl 235 [.ref a0, .ref (E.2.2.1 53)] h_15) fun v_18 h_17 =>
                    (mm_br (v_18 = 0) (
                    (mm_br ((0 : Int32) = 0) (
                      mm_cV [] (cl 233 [.ref a0, .int 1] h_17) fun h_19 =>
                        some (.inl (some (.int 0)), h_19)) (
                      some (.inl (some (.int 0)), h_17)))) (
                    mm_run E cl mm_m254 n 200 [some (.ref a0), some (.int s0)] [] h_17))) (
                  mm_run E cl mm_m254 n 200 [some (.ref a0), some (.int s0)] [] h_15))) (
                mm_run E cl mm_m254 n 200 [some (.ref a0), some (.int s0)] [] h_13))) (
              mm_run E cl mm_m254 n 200 [some (.ref a0), some (.int s0)] [] h_11))) (
            mm_run E cl mm_m254 n 200 [some (.ref a0), some (.int s0)] [] h_9))) (
          mm_run E cl mm_m254 n 200 [some (.ref a0), some (.int s0)] [] h_7))) (
        mm_run E cl mm_m254 n 200 [some (.ref a0), some (.int s0)] [] h_5))) (
      mm_run E cl mm_m254 n 200 [some (.ref a0), some (.int s0)] [] h_3))) (
    mm_run E cl mm_m254 n 200 [some (.ref a0), some (.int s0)] [] h_1))) (
  mm_run E cl mm_m254 n 200 [some (.ref a0), some (.int s0)] [] h)) := rfl
-- Mod.lookAtWord
set_option maxRecDepth 20000 in
set_option maxHeartbeats 4000000 in
theorem mm_e254_200 (E : mm_E) (cl : mm_F) (n : Nat) (a0 : Nat) (x1 : Int32) (h : mm_H) :
  mm_run E cl mm_m254 (n + 1) 200 [some (.ref a0), some (.int x1)] [] h =
  (mm_br ((1 : Int32) = 0) (
  mm_cV [] (cl 233 [.ref a0, .int 1] h) fun h_1 =>
    some (.inl (some (.int 0)), h_1)) (
  some (.inl (some (.int 0)), h))) := rfl
-- Mod.readProduct
set_option maxRecDepth 20000 in
set_option maxHeartbeats 4000000 in
theorem mm_e255_0 (E : mm_E) (cl : mm_F) (n : Nat) (a0 : Nat) (h : mm_H) :
  mm_run E cl mm_m255 (n + 1) 0 [some (.ref a0), none] [] h =
  mm_cI [] (cl 253 [.ref a0] h) fun v_2 h_1 =>
  mm_run E cl mm_m255 n 5 [some (.ref a0), some (.int v_2)] [] h_1 := rfl
-- Mod.readProduct
set_option maxRecDepth 20000 in
set_option maxHeartbeats 4000000 in
theorem mm_e255_5 (E : mm_E) (cl : mm_F) (n : Nat) (a0 : Nat) (x1 : Int32) (h : mm_H) :
  mm_run E cl mm_m255 (n + 1) 5 [some (.ref a0), some (.int x1)] [] h =
  mm_cI [] (cl 234 [.ref a0, .int 42] h) fun v_2 h_1 =>
  (mm_br (v_2 = 0) (
  some (.inl (some (.int x1)), h_1)) (
  mm_cV [] (cl 236 [.ref a0] h_1) fun h_3 =>
    mm_cI [] (cl 253 [.ref a0] h_3) fun v_5 h_4 =>
    mm_run E cl mm_m255 n 5 [some (.ref a0), some (.int (x1 * v_5))] [] h_4)) := rfl
-- Mod.readSum
set_option maxRecDepth 20000 in
set_option maxHeartbeats 4000000 in
theorem mm_e256_0 (E : mm_E) (cl : mm_F) (n : Nat) (a0 : Nat) (h : mm_H) :
  mm_run E cl mm_m256 (n + 1) 0 [some (.ref a0), none, none, none] [] h =
  mm_cI [] (cl 255 [.ref a0] h) fun v_2 h_1 =>
  mm_run E cl mm_m256 n 5 [some (.ref a0), some (.int v_2), none, none] [] h_1 := rfl
-- Mod.readSum
set_option maxRecDepth 20000 in
set_option maxHeartbeats 4000000 in
theorem mm_e256_5 (E : mm_E) (cl : mm_F) (n : Nat) (a0 : Nat) (x1 : Int32) (o2 : Option Value) (o3 : Option Value) (h : mm_H) :
  mm_run E cl mm_m256 (n + 1) 5 [some (.ref a0), some (.int x1), o2, o3] [] h =
  mm_cI [] (cl 234 [.ref a0, .int 43] h) fun v_2 h_1 =>
  (mm_br (v_2 = 0) (
  mm_cI [] (cl 234 [.ref a0, .int 45] h_1) fun v_9 h_8 =>
    (mm_br (v_9 = 0) (
    some (.inl (some (.int x1)), h_8)) (
    mm_cI [] (cl 234 [.ref a0, .int 43] h_8) fun v_11 h_10 =>
      mm_cV [] (cl 236 [.ref a0] h_10) fun h_12 =>
      mm_cI [] (cl 255 [.ref a0] h_12) fun v_14 h_13 =>
      (mm_br (v_11 = 0) (
      mm_run E cl mm_m256 n 5 [some (.ref a0), some (.int (x1 - v_14)), some (.int v_11), some (.int v_14)] [] h_13) (
      mm_run E cl mm_m256 n 5 [some (.ref a0), some (.int (x1 + v_14)), some (.int v_11), some (.int v_14)] [] h_13))))) (
  mm_cI [] (cl 234 [.ref a0, .int 43] h_1) fun v_4 h_3 =>
    mm_cV [] (cl 236 [.ref a0] h_3) fun h_5 =>
    mm_cI [] (cl 255 [.ref a0] h_5) fun v_7 h_6 =>
    (mm_br (v_4 = 0) (
    mm_run E cl mm_m256 n 5 [some (.ref a0), some (.int (x1 - v_7)), some (.int v_4), some (.int v_7)] [] h_6) (
    mm_run E cl mm_m256 n 5 [some (.ref a0), some (.int (x1 + v_7)), some (.int v_4), some (.int v_7)] [] h_6)))) := rfl
-- Mod.readFact
set_option maxRecDepth 20000 in
set_option maxHeartbeats 4000000 in
theorem mm_e257_0 (E : mm_E) (cl : mm_F) (n : Nat) (a0 : Nat) (h : mm_H) :
  mm_run E cl mm_m257 (n + 1) 0 [some (.ref a0), none, none, none] [] h =
  mm_cI [] (cl 235 [.ref a0, .ref (E.2.2.1 36)] h) fun v_2 h_1 =>
  (mm_br (v_2 = 0) (
  mm_cI [] (cl 234 [.ref a0, .int 123] h_1) fun v_4 h_3 =>
    (mm_br (v_4 = 0) (
    mm_cI [] (cl 256 [.ref a0] h_3) fun v_6 h_5 =>
      mm_cI [] (cl 234 [.ref a0, .int 60] h_5) fun v_8 h_7 =>
      (mm_br (v_8 = 0) (
      mm_cI [] (cl 234 [.ref a0, .int 61] h_7) fun v_10 h_9 =>
        (mm_br (v_10 = 0) (
        mm_cI [] (cl 234 [.ref a0, .int 62] h_9) fun v_12 h_11 =>
          (mm_br (v_12 = 0) (
          (mm_br ((2 : Int32) = 2) (
            mm_cV [] (cl 233 [.ref a0, .int 1] h_11) fun h_13 =>
              mm_run E cl mm_m257 n 131 [some (.ref a0), some (.int v_6), some (.int 2), none] [] h_13) (
            mm_run E cl mm_m257 n 131 [some (.ref a0), some (.int v_6), some (.int 2), none] [] h_11))) (
          (mm_br ((1 : Int32) = 2) (
            mm_cV [] (cl 233 [.ref a0, .int 1] h_11) fun h_14 =>
              mm_run E cl mm_m257 n 131 [some (.ref a0), some (.int v_6), some (.int 1), none] [] h_14) (
            mm_run E cl mm_m257 n 131 [some (.ref a0), some (.int v_6), some (.int 1), none] [] h_11))))) (
        (mm_br ((0 : Int32) = 2) (
          mm_cV [] (cl 233 [.ref a0, .int 1] h_9) fun h_15 =>
            mm_run E cl mm_m257 n 131 [some (.ref a0), some (.int v_6), some (.int 0), none] [] h_15) (
          mm_run E cl mm_m257 n 131 [some (.ref a0), some (.int v_6), some (.int 0), none] [] h_9))))) (
      (mm_br (((-1) : Int32) = 2) (
        mm_cV [] (cl 233 [.ref a0, .int 1] h_7) fun h_16 =>
          mm_run E cl mm_m257 n 131 [some (.ref a0), some (.int v_6), some (.int (-1)), none] [] h_16) (
        mm_run E cl mm_m257 n 131 [some (.ref a0), some (.int v_6), some (.int (-1)), none] [] h_7))))) (
    mm_cV [] (cl 252 [.ref a0] h_3) fun h_17 =>
      mm_cI [] (cl 259 [.ref a0] h_17) fun v_19 h_18 =>
      mm_cV [] (cl 237 [.ref a0, .int 125] h_18) fun h_20 =>
      mm_gI h_20 a0 9 35 fun v_21 =>
      mm_pF h_20 a0 9 35 (.int (v_21 - 1)) fun h_22 =>
      (mm_bz v_19 (some (.inl (some (.int v_19)), h_22)))))) (
  mm_cV [] (cl 252 [.ref a0] h_1) fun h_23 =>
    mm_cI [] (cl 257 [.ref a0] h_23) fun v_25 h_24 =>
    mm_gI h_24 a0 9 35 fun v_26 =>
    mm_pF h_24 a0 9 35 (.int (v_26 - 1)) fun h_27 =>
    (mm_br (v_25 = 0) (
    (mm_bz 1 (some (.inl (some (.int 1)), h_27)))) (
    (mm_bz 0 (some (.inl (some (.int 0)), h_27))))))) := rfl
-- Mod.readFact
set_option maxRecDepth 20000 in
set_option maxHeartbeats 4000000 in
theorem mm_e257_131 (E : mm_E) (cl : mm_F) (n : Nat) (a0 : Nat) (x1 : Int32) (x2 : Int32) (o3 : Option Value) (h : mm_H) :
  mm_run E cl mm_m257 (n + 1) 131 [some (.ref a0), some (.int x1), some (.int x2), o3] [] h =
  mm_cV [] (cl 236 [.ref a0] h) fun h_1 =>
  mm_cI [] (cl 256 [.ref a0] h_1) fun v_3 h_2 =>
  (mm_br (0 ≤ x2) (
  (mm_br (x2 = 0) (
    (mm_br (x1 = v_3) (
      (mm_bz 1 (some (.inl (some (.int 1)), h_2)))) (
      (mm_bz 0 (some (.inl (some (.int 0)), h_2)))))) (
    (mm_br (x1 ≤ v_3) (
      (mm_bz 0 (some (.inl (some (.int 0)), h_2)))) (
      (mm_bz 1 (some (.inl (some (.int 1)), h_2)))))))) (
  (mm_br (v_3 ≤ x1) (
    (mm_bz 0 (some (.inl (some (.int 0)), h_2)))) (
    (mm_bz 1 (some (.inl (some (.int 1)), h_2))))))) := rfl
-- Mod.readBoth
set_option maxRecDepth 20000 in
set_option maxHeartbeats 4000000 in
theorem mm_e258_0 (E : mm_E) (cl : mm_F) (n : Nat) (a0 : Nat) (h : mm_H) :
  mm_run E cl mm_m258 (n + 1) 0 [some (.ref a0), none, none] [] h =
  mm_cI [] (cl 257 [.ref a0] h) fun v_2 h_1 =>
  mm_run E cl mm_m258 n 5 [some (.ref a0), some (.int v_2), none] [] h_1 := rfl
-- Mod.readBoth
set_option maxRecDepth 20000 in
set_option maxHeartbeats 4000000 in
theorem mm_e258_5 (E : mm_E) (cl : mm_F) (n : Nat) (a0 : Nat) (x1 : Int32) (o2 : Option Value) (h : mm_H) :
  mm_run E cl mm_m258 (n + 1) 5 [some (.ref a0), some (.int x1), o2] [] h =
  mm_cI [] (cl 235 [.ref a0, .ref (E.2.2.1 54)] h) fun v_2 h_1 =>
  (mm_br (v_2 = 0) (
  (mm_bz x1 (some (.inl (some (.int x1)), h_1)))) (
  mm_cV [] (cl 236 [.ref a0] h_1) fun h_3 =>
    mm_cI [] (cl 257 [.ref a0] h_3) fun v_5 h_4 =>
    (mm_br (x1 = 0) (
    mm_run E cl mm_m258 n 5 [some (.ref a0), some (.int 0), some (.int v_5)] [] h_4) (
    (mm_br (v_5 = 0) (
      mm_run E cl mm_m258 n 5 [some (.ref a0), some (.int 0), some (.int v_5)] [] h_4) (
      mm_run E cl mm_m258 n 5 [some (.ref a0), some (.int 1), some (.int v_5)] [] h_4)))))) := rfl
-- Mod.readTest
set_option maxRecDepth 20000 in
set_option maxHeartbeats 4000000 in
theorem mm_e259_0 (E : mm_E) (cl : mm_F) (n : Nat) (a0 : Nat) (h : mm_H) :
  mm_run E cl mm_m259 (n + 1) 0 [some (.ref a0), none, none] [] h =
  mm_cI [] (cl 258 [.ref a0] h) fun v_2 h_1 =>
  mm_run E cl mm_m259 n 5 [some (.ref a0), some (.int v_2), none] [] h_1 := rfl
-- Mod.readTest
set_option maxRecDepth 20000 in
set_option maxHeartbeats 4000000 in
theorem mm_e259_5 (E : mm_E) (cl : mm_F) (n : Nat) (a0 : Nat) (x1 : Int32) (o2 : Option Value) (h : mm_H) :
  mm_run E cl mm_m259 (n + 1) 5 [some (.ref a0), some (.int x1), o2] [] h =
  mm_cI [] (cl 235 [.ref a0, .ref (E.2.2.1 55)] h) fun v_2 h_1 =>
  (mm_br (v_2 = 0) (
  (mm_bz x1 (some (.inl (some (.int x1)), h_1)))) (
  mm_cV [] (cl 236 [.ref a0] h_1) fun h_3 =>
    mm_cI [] (cl 258 [.ref a0] h_3) fun v_5 h_4 =>
    (mm_br (x1 = 0) (
    (mm_br (v_5 = 0) (
      mm_run E cl mm_m259 n 5 [some (.ref a0), some (.int 0), some (.int v_5)] [] h_4) (
      mm_run E cl mm_m259 n 5 [some (.ref a0), some (.int 1), some (.int v_5)] [] h_4))) (
    mm_run E cl mm_m259 n 5 [some (.ref a0), some (.int 1), some (.int v_5)] [] h_4)))) := rfl
-- Mod.readAll
set_option maxRecDepth 20000 in
set_option maxHeartbeats 4000000 in
theorem mm_e260_0 (E : mm_E) (cl : mm_F) (n : Nat) (a0 : Nat) (x1 : Int32) (x2 : Int32) (x3 : Int32) (h : mm_H) :
  mm_run E cl mm_m260 (n + 1) 0 [some (.ref a0), some (.int x1), some (.int x2), some (.int x3), none] [] h =
  mm_pF h a0 9 36 (.int x2) fun h_1 =>
  (mm_bz x3 (
  mm_pF h_1 a0 9 37 (.int x3) fun h_2 =>
  mm_cV [] (cl 238 [.ref a0, .int x1] h_2) fun h_3 =>
  mm_cI [] (cl 235 [.ref a0, .ref (E.2.2.1 31)] h_3) fun v_5 h_4 =>
  (mm_br (v_5 = 0) (
  mm_cI [] (cl 235 [.ref a0, .ref (E.2.2.1 32)] h_4) fun v_7 h_6 =>
    (mm_br (v_7 = 0) (
    mm_cI [] (cl 235 [.ref a0, .ref (E.2.2.1 33)] h_6) fun v_9 h_8 =>
      (mm_br (v_9 = 0) (
      mm_cI [] (cl 235 [.ref a0, .ref (E.2.2.1 34)] h_8) fun v_11 h_10 =>
        (mm_br (v_11 = 0) (
        mm_run E cl mm_m260 n 73 [some (.ref a0), some (.int x1), some (.int x2), some (.int x3), none] [.int 4, .ref a0] h_10) (
        mm_run E cl mm_m260 n 73 [some (.ref a0), some (.int x1), some (.int x2), some (.int x3), none] [.int 3, .ref a0] h_10))) (
      mm_run E cl mm_m260 n 73 [some (.ref a0), some (.int x1), some (.int x2), some (.int x3), none] [.int 2, .ref a0] h_8))) (
    mm_run E cl mm_m260 n 73 [some (.ref a0), some (.int x1), some (.int x2), some (.int x3), none] [.int 1, .ref a0] h_6))) (
  mm_run E cl mm_m260 n 73 [some (.ref a0), some (.int x1), some (.int x2), some (.int x3), none] [.int 0, .ref a0] h_4)))) := rfl
-- Mod.readAll
set_option maxRecDepth 20000 in
set_option maxHeartbeats 4000000 in
theorem mm_e260_73 (E : mm_E) (cl : mm_F) (n : Nat) (a0 : Nat) (x1 : Int32) (x2 : Int32) (x3 : Int32) (o4 : Option Value) (b0 : Nat) (s1 : Int32) (h : mm_H) :
  mm_run E cl mm_m260 (n + 1) 73 [some (.ref a0), some (.int x1), some (.int x2), some (.int x3), o4] [.int s1, .ref b0] h =
  mm_pF h b0 9 38 (.int s1) fun h_1 =>
  mm_gI h_1 a0 9 38 fun v_2 =>
  (mm_br (v_2 = 4) (
  mm_cI [] (cl 235 [.ref a0, .ref (E.2.2.1 35)] h_1) fun v_4 h_3 =>
    (mm_br (v_4 = 0) (
    mm_cV [] (cl 233 [.ref a0, .int 1] h_3) fun h_5 =>
      mm_run E cl mm_m260 n 99 [some (.ref a0), some (.int x1), some (.int x2), some (.int x3), o4] [] h_5) (
    mm_run E cl mm_m260 n 99 [some (.ref a0), some (.int x1), some (.int x2), some (.int x3), o4] [] h_3))) (
  mm_run E cl mm_m260 n 99 [some (.ref a0), some (.int x1), some (.int x2), some (.int x3), o4] [] h_1)) := rfl
-- Mod.readAll
set_option maxRecDepth 20000 in
set_option maxHeartbeats 4000000 in
theorem mm_e260_99 (E : mm_E) (cl : mm_F) (n : Nat) (a0 : Nat) (x1 : Int32) (x2 : Int32) (x3 : Int32) (o4 : Option Value) (h : mm_H) :
  mm_run E cl mm_m260 (n + 1) 99 [some (.ref a0), some (.int x1), some (.int x2), some (.int x3), o4] [] h =
  mm_cV [] (cl 236 [.ref a0] h) fun h_1 =>
  mm_gI h_1 a0 9 38 fun v_2 =>
  (mm_br (2 ≤ v_2) (
  mm_cI [] (cl 256 [.ref a0] h_1) fun v_4 h_3 =>
    mm_run E cl mm_m260 n 130 [some (.ref a0), some (.int x1), some (.int x2), some (.int x3), o4] [.int v_4] h_3) (
  mm_cI [] (cl 259 [.ref a0] h_1) fun v_6 h_5 =>
    (mm_br (v_6 = 0) (
    mm_run E cl mm_m260 n 130 [some (.ref a0), some (.int x1), some (.int x2), some (.int x3), o4] [.int 0] h_5) (
    mm_run E cl mm_m260 n 130 [some (.ref a0), some (.int x1), some (.int x2), some (.int x3), o4] [.int 1] h_5)))) := rfl
-- Mod.readAll
set_option maxRecDepth 20000 in
set_option maxHeartbeats 4000000 in
theorem mm_e260_130 (E : mm_E) (cl : mm_F) (n : Nat) (a0 : Nat) (x1 : Int32) (x2 : Int32) (x3 : Int32) (o4 : Option Value) (s0 : Int32) (h : mm_H) :
  mm_run E cl mm_m260 (n + 1) 130 [some (.ref a0), some (.int x1), some (.int x2), some (.int x3), o4] [.int s0] h =
  mm_gI h a0 9 32 fun v_1 =>
  (mm_br (v_1 = 0) (
  mm_gI h a0 9 29 fun v_2 =>
    (mm_br (v_2 = 0) (
    some (.inl (some (.int s0)), h)) (
    mm_cV [] (cl 233 [.ref a0, .int 1] h) fun h_3 =>
      some (.inl (some (.int s0)), h_3)))) (
  some (.inl (some (.int s0)), h))) := rfl
-- Mod.ask
set_option maxRecDepth 20000 in
set_option maxHeartbeats 4000000 in
theorem mm_e261_0 (E : mm_E) (cl : mm_F) (n : Nat) (a0 : Nat) (x1 : Int32) (h : mm_H) :
  mm_run E cl mm_m261 (n + 1) 0 [some (.ref a0), some (.int x1), none, none, none, none, none] [] h =
  mm_pF h a0 9 0 (.int 0) fun h_1 =>
  (mm_br (x1 < 0) (
  mm_cI [] (cl 146 [.ref a0, .int 1] h_1) fun v_3 h_2 =>
    some (.inl (some (.int v_3)), h_2)) (
  mm_gI h_1 a0 9 26 fun v_4 =>
    (mm_br (v_4 < x1) (
    mm_cI [] (cl 146 [.ref a0, .int 1] h_1) fun v_6 h_5 =>
      some (.inl (some (.int v_6)), h_5)) (
    (mm_br (x1 ≤ 200) (
      mm_cI [] (cl 260 [.ref a0, .int x1, .int 0, .int 0] h_1) fun v_8 h_7 =>
        mm_cI [] (cl 240 [.ref a0] h_7) fun v_10 h_9 =>
        (mm_br (v_10 = 0) (
        mm_gI h_9 a0 9 38 fun v_11 =>
          (mm_br (v_11 = 1) (
          mm_run E cl mm_m261 n 71 [some (.ref a0), some (.int x1), some (.int v_8), some (.int v_10), some (.int (-1)), some (.int 0), none] [] h_9) (
          mm_run E cl mm_m261 n 71 [some (.ref a0), some (.int x1), some (.int v_8), some (.int v_10), some (.int 0), some (.int 0), none] [] h_9))) (
        some (.inl (some (.int ((-1000000000) - v_10))), h_9)))) (
      mm_cI [] (cl 146 [.ref a0, .int 1] h_1) fun v_13 h_12 =>
        some (.inl (some (.int v_13)), h_12))))))) := rfl
-- Mod.ask
set_option maxRecDepth 20000 in
set_option maxHeartbeats 4000000 in
theorem mm_e261_71 (E : mm_E) (cl : mm_F) (n : Nat) (a0 : Nat) (x1 : Int32) (x2 : Int32) (x3 : Int32) (x4 : Int32) (x5 : Int32) (o6 : Option Value) (h : mm_H) :
  mm_run E cl mm_m261 (n + 1) 71 [some (.ref a0), some (.int x1), some (.int x2), some (.int x3), some (.int x4), some (.int x5), o6] [] h =
  mm_cI [] (cl 150 [.ref a0] h) fun v_2 h_1 =>
  (mm_br (v_2 ≤ x5) (
  some (.inl (some (.int x4)), h_1)) (
  mm_cI [] (cl 260 [.ref a0, .int x1, .int x5, .int 1] h_1) fun v_4 h_3 =>
    mm_gI h_3 a0 9 38 fun v_5 =>
    (mm_br (v_5 = 1) (
    (mm_br (x4 = (-1)) (
      (mm_br (v_4 = 1) (
        mm_run E cl mm_m261 n 71 [some (.ref a0), some (.int x1), some (.int x2), some (.int x3), some (.int x5), some (.int (x5 + 1)), some (.int v_4)] [] h_3) (
        mm_run E cl mm_m261 n 71 [some (.ref a0), some (.int x1), some (.int x2), some (.int x3), some (.int x4), some (.int (x5 + 1)), some (.int v_4)] [] h_3))) (
      mm_run E cl mm_m261 n 71 [some (.ref a0), some (.int x1), some (.int x2), some (.int x3), some (.int x4), some (.int (x5 + 1)), some (.int v_4)] [] h_3))) (
    mm_gI h_3 a0 9 38 fun v_6 =>
      (mm_br (3 ≤ v_6) (
      (mm_br (x5 = 0) (
        mm_run E cl mm_m261 n 71 [some (.ref a0), some (.int x1), some (.int x2), some (.int x3), some (.int v_4), some (.int (x5 + 1)), some (.int v_4)] [] h_3) (
        mm_gI h_3 a0 9 38 fun v_7 =>
          (mm_br (v_7 = 3) (
          (mm_br (v_4 ≤ x4) (
            mm_run E cl mm_m261 n 71 [some (.ref a0), some (.int x1), some (.int x2), some (.int x3), some (.int x4), some (.int (x5 + 1)), some (.int v_4)] [] h_3) (
            mm_run E cl mm_m261 n 71 [some (.ref a0), some (.int x1), some (.int x2), some (.int x3), some (.int v_4), some (.int (x5 + 1)), some (.int v_4)] [] h_3))) (
          (mm_br (x4 ≤ v_4) (
            mm_run E cl mm_m261 n 71 [some (.ref a0), some (.int x1), some (.int x2), some (.int x3), some (.int x4), some (.int (x5 + 1)), some (.int v_4)] [] h_3) (
            mm_run E cl mm_m261 n 71 [some (.ref a0), some (.int x1), some (.int x2), some (.int x3), some (.int v_4), some (.int (x5 + 1)), some (.int v_4)] [] h_3))))))) (
      mm_run E cl mm_m261 n 71 [some (.ref a0), some (.int x1), some (.int x2), some (.int x3), some (.int (x4 + v_4)), some (.int (x5 + 1)), some (.int v_4)] [] h_3)))))) := rfl
-- Law.network
set_option maxRecDepth 20000 in
set_option maxHeartbeats 4000000 in
theorem mm_e262_0 (E : mm_E) (cl : mm_F) (n : Nat) (a0 : Nat) (x1 : Int32) (a2 : Nat) (h : mm_H) :
  mm_run E cl mm_m262 (n + 1) 0 [some (.ref a0), some (.int x1), some (.ref a2), none] [] h =
  mm_cI [(1, 1)] (cl 103 [.ref a0, .int x1] h) fun v_2 h_1 =>
  mm_wJ h_1 a2 0 (Int32.toInt64 v_2) fun h_3 =>
  some (.inl (some (.int 0)), h_3) := rfl
-- Law.count
set_option maxRecDepth 20000 in
set_option maxHeartbeats 4000000 in
theorem mm_e263_0 (E : mm_E) (cl : mm_F) (n : Nat) (a0 : Nat) (x1 : Int32) (a2 : Nat) (h : mm_H) :
  mm_run E cl mm_m263 (n + 1) 0 [some (.ref a0), some (.int x1), some (.ref a2), none] [] h =
  mm_cI [(0, 1)] (cl 105 [.ref a0, .int x1] h) fun v_2 h_1 =>
  mm_wJ h_1 a2 0 (Int32.toInt64 v_2) fun h_3 =>
  some (.inl (some (.int 0)), h_3) := rfl
-- Law.letter
set_option maxRecDepth 20000 in
set_option maxHeartbeats 4000000 in
theorem mm_e264_0 (E : mm_E) (cl : mm_F) (n : Nat) (a0 : Nat) (x1 : Int32) (x2 : Int32) (a3 : Nat) (h : mm_H) :
  mm_run E cl mm_m264 (n + 1) 0 [some (.ref a0), some (.int x1), some (.int x2), some (.ref a3), none] [] h =
  mm_cI [(0, 1)] (cl 106 [.ref a0, .int x1, .int x2] h) fun v_2 h_1 =>
  mm_wJ h_1 a3 0 (Int32.toInt64 v_2) fun h_3 =>
  some (.inl (some (.int 0)), h_3) := rfl
-- Law.stage
set_option maxRecDepth 20000 in
set_option maxHeartbeats 4000000 in
theorem mm_e265_0 (E : mm_E) (cl : mm_F) (n : Nat) (a0 : Nat) (x1 : Int32) (x2 : Int32) (a3 : Nat) (h : mm_H) :
  mm_run E cl mm_m265 (n + 1) 0 [some (.ref a0), some (.int x1), some (.int x2), some (.ref a3), none] [] h =
  mm_cI [(0, 1)] (cl 107 [.ref a0, .int x1, .int x2] h) fun v_2 h_1 =>
  mm_wJ h_1 a3 0 (Int32.toInt64 v_2) fun h_3 =>
  some (.inl (some (.int 0)), h_3) := rfl
-- Law.bound
set_option maxRecDepth 20000 in
set_option maxHeartbeats 4000000 in
theorem mm_e266_0 (E : mm_E) (cl : mm_F) (n : Nat) (a0 : Nat) (x1 : Int32) (x2 : Int32) (x3 : Int32) (a4 : Nat) (h : mm_H) :
  mm_run E cl mm_m266 (n + 1) 0 [some (.ref a0), some (.int x1), some (.int x2), some (.int x3), some (.ref a4), none] [] h =
  mm_cI [(0, 1), (1, 2)] (cl 108 [.ref a0, .int x1, .int x2, .int x3] h) fun v_2 h_1 =>
  mm_wJ h_1 a4 0 (Int32.toInt64 v_2) fun h_3 =>
  some (.inl (some (.int 0)), h_3) := rfl
-- Law.change
set_option maxRecDepth 20000 in
set_option maxHeartbeats 4000000 in
theorem mm_e267_0 (E : mm_E) (cl : mm_F) (n : Nat) (a0 : Nat) (x1 : Int32) (x2 : Int32) (x3 : Int32) (a4 : Nat) (h : mm_H) :
  mm_run E cl mm_m267 (n + 1) 0 [some (.ref a0), some (.int x1), some (.int x2), some (.int x3), some (.ref a4), none] [] h =
  mm_cI [(0, 1), (1, 2)] (cl 109 [.ref a0, .int x1, .int x2, .int x3] h) fun v_2 h_1 =>
  mm_wJ h_1 a4 0 (Int32.toInt64 v_2) fun h_3 =>
  some (.inl (some (.int 0)), h_3) := rfl
-- Law.pin
set_option maxRecDepth 20000 in
set_option maxHeartbeats 4000000 in
theorem mm_e268_0 (E : mm_E) (cl : mm_F) (n : Nat) (a0 : Nat) (x1 : Int32) (x2 : Int32) (a3 : Nat) (h : mm_H) :
  mm_run E cl mm_m268 (n + 1) 0 [some (.ref a0), some (.int x1), some (.int x2), some (.ref a3), none] [] h =
  mm_cI [(0, 1), (1, 2)] (cl 112 [.ref a0, .int x1, .int x2] h) fun v_2 h_1 =>
  mm_wJ h_1 a3 0 (Int32.toInt64 v_2) fun h_3 =>
  some (.inl (some (.int 0)), h_3) := rfl
-- Law.promise
set_option maxRecDepth 20000 in
set_option maxHeartbeats 4000000 in
theorem mm_e269_0 (E : mm_E) (cl : mm_F) (n : Nat) (a0 : Nat) (x1 : Int32) (x2 : Int32) (a3 : Nat) (h : mm_H) :
  mm_run E cl mm_m269 (n + 1) 0 [some (.ref a0), some (.int x1), some (.int x2), some (.ref a3), none] [] h =
  mm_cI [(0, 1), (1, 2)] (cl 115 [.ref a0, .int x1, .int x2] h) fun v_2 h_1 =>
  mm_wJ h_1 a3 0 (Int32.toInt64 v_2) fun h_3 =>
  some (.inl (some (.int 0)), h_3) := rfl
-- Law.planned
set_option maxRecDepth 20000 in
set_option maxHeartbeats 4000000 in
theorem mm_e270_0 (E : mm_E) (cl : mm_F) (n : Nat) (a0 : Nat) (x1 : Int32) (x2 : Int32) (a3 : Nat) (h : mm_H) :
  mm_run E cl mm_m270 (n + 1) 0 [some (.ref a0), some (.int x1), some (.int x2), some (.ref a3), none] [] h =
  mm_cI [(0, 1)] (cl 116 [.ref a0, .int x1, .int x2] h) fun v_2 h_1 =>
  mm_wJ h_1 a3 0 (Int32.toInt64 v_2) fun h_3 =>
  some (.inl (some (.int 0)), h_3) := rfl
-- Law.plan
set_option maxRecDepth 20000 in
set_option maxHeartbeats 4000000 in
theorem mm_e271_0 (E : mm_E) (cl : mm_F) (n : Nat) (a0 : Nat) (x1 : Int32) (a2 : Nat) (h : mm_H) :
  mm_run E cl mm_m271 (n + 1) 0 [some (.ref a0), some (.int x1), some (.ref a2), none] [] h =
  mm_cI [(0, 1)] (cl 117 [.ref a0, .int x1] h) fun v_2 h_1 =>
  mm_wJ h_1 a2 0 (Int32.toInt64 v_2) fun h_3 =>
  some (.inl (some (.int 0)), h_3) := rfl
-- Law.worth
set_option maxRecDepth 20000 in
set_option maxHeartbeats 4000000 in
theorem mm_e272_0 (E : mm_E) (cl : mm_F) (n : Nat) (a0 : Nat) (x1 : Int32) (x2 : Int32) (a3 : Nat) (h : mm_H) :
  mm_run E cl mm_m272 (n + 1) 0 [some (.ref a0), some (.int x1), some (.int x2), some (.ref a3), none] [] h =
  mm_cI [(0, 1)] (cl 119 [.ref a0, .int x1, .int x2] h) fun v_2 h_1 =>
  mm_wJ h_1 a3 0 (Int32.toInt64 v_2) fun h_3 =>
  some (.inl (some (.int 0)), h_3) := rfl
-- Law.even
set_option maxRecDepth 20000 in
set_option maxHeartbeats 4000000 in
theorem mm_e273_0 (E : mm_E) (cl : mm_F) (n : Nat) (a0 : Nat) (x1 : Int32) (a2 : Nat) (h : mm_H) :
  mm_run E cl mm_m273 (n + 1) 0 [some (.ref a0), some (.int x1), some (.ref a2), none] [] h =
  mm_cI [(1, 1)] (cl 120 [.ref a0, .int x1] h) fun v_2 h_1 =>
  mm_wJ h_1 a2 0 (Int32.toInt64 v_2) fun h_3 =>
  some (.inl (some (.int 0)), h_3) := rfl
-- Law.pinned
set_option maxRecDepth 20000 in
set_option maxHeartbeats 4000000 in
theorem mm_e274_0 (E : mm_E) (cl : mm_F) (n : Nat) (a0 : Nat) (x1 : Int32) (x2 : Int32) (a3 : Nat) (h : mm_H) :
  mm_run E cl mm_m274 (n + 1) 0 [some (.ref a0), some (.int x1), some (.int x2), some (.ref a3), none] [] h =
  mm_cI [(0, 1), (1, 2)] (cl 122 [.ref a0, .int x1, .int x2] h) fun v_2 h_1 =>
  mm_wJ h_1 a3 0 (Int32.toInt64 v_2) fun h_3 =>
  some (.inl (some (.int 0)), h_3) := rfl
-- Law.demand
set_option maxRecDepth 20000 in
set_option maxHeartbeats 4000000 in
theorem mm_e275_0 (E : mm_E) (cl : mm_F) (n : Nat) (a0 : Nat) (x1 : Int32) (x2 : Int32) (x3 : Int32) (a4 : Nat) (h : mm_H) :
  mm_run E cl mm_m275 (n + 1) 0 [some (.ref a0), some (.int x1), some (.int x2), some (.int x3), some (.ref a4), none] [] h =
  mm_cI [(0, 1), (1, 2)] (cl 123 [.ref a0, .int x1, .int x2, .int x3] h) fun v_2 h_1 =>
  mm_wJ h_1 a4 0 (Int32.toInt64 v_2) fun h_3 =>
  some (.inl (some (.int 0)), h_3) := rfl
-- Law.drawn
set_option maxRecDepth 20000 in
set_option maxHeartbeats 4000000 in
theorem mm_e276_0 (E : mm_E) (cl : mm_F) (n : Nat) (a0 : Nat) (x1 : Int32) (x2 : Int32) (a3 : Nat) (h : mm_H) :
  mm_run E cl mm_m276 (n + 1) 0 [some (.ref a0), some (.int x1), some (.int x2), some (.ref a3), none] [] h =
  mm_cI [(0, 1)] (cl 124 [.ref a0, .int x1, .int x2] h) fun v_2 h_1 =>
  mm_wJ h_1 a3 0 (Int32.toInt64 v_2) fun h_3 =>
  some (.inl (some (.int 0)), h_3) := rfl
-- Law.day
set_option maxRecDepth 20000 in
set_option maxHeartbeats 4000000 in
theorem mm_e277_0 (E : mm_E) (cl : mm_F) (n : Nat) (a0 : Nat) (x1 : Int32) (x2 : Int32) (x3 : Int32) (a4 : Nat) (h : mm_H) :
  mm_run E cl mm_m277 (n + 1) 0 [some (.ref a0), some (.int x1), some (.int x2), some (.int x3), some (.ref a4), none] [] h =
  mm_cI [(0, 1)] (cl 125 [.ref a0, .int x1, .int x2, .int x3] h) fun v_2 h_1 =>
  mm_wJ h_1 a4 0 (Int32.toInt64 v_2) fun h_3 =>
  some (.inl (some (.int 0)), h_3) := rfl
-- Law.days
set_option maxRecDepth 20000 in
set_option maxHeartbeats 4000000 in
theorem mm_e278_0 (E : mm_E) (cl : mm_F) (n : Nat) (a0 : Nat) (x1 : Int32) (x2 : Int32) (a3 : Nat) (h : mm_H) :
  mm_run E cl mm_m278 (n + 1) 0 [some (.ref a0), some (.int x1), some (.int x2), some (.ref a3), none] [] h =
  mm_cI [(0, 1)] (cl 126 [.ref a0, .int x1, .int x2] h) fun v_2 h_1 =>
  mm_wJ h_1 a3 0 (Int32.toInt64 v_2) fun h_3 =>
  some (.inl (some (.int 0)), h_3) := rfl
-- Law.ask
set_option maxRecDepth 20000 in
set_option maxHeartbeats 4000000 in
theorem mm_e279_0 (E : mm_E) (cl : mm_F) (n : Nat) (a0 : Nat) (x1 : Int32) (a2 : Nat) (h : mm_H) :
  mm_run E cl mm_m279 (n + 1) 0 [some (.ref a0), some (.int x1), some (.ref a2), none] [] h =
  mm_cI [(1, 1)] (cl 127 [.ref a0, .int x1] h) fun v_2 h_1 =>
  mm_wJ h_1 a2 0 (Int32.toInt64 v_2) fun h_3 =>
  some (.inl (some (.int 0)), h_3) := rfl
-- Law.chain
set_option maxRecDepth 20000 in
set_option maxHeartbeats 4000000 in
theorem mm_e280_0 (E : mm_E) (cl : mm_F) (n : Nat) (a0 : Nat) (x1 : Int32) (x2 : Int32) (a3 : Nat) (h : mm_H) :
  mm_run E cl mm_m280 (n + 1) 0 [some (.ref a0), some (.int x1), some (.int x2), some (.ref a3), none] [] h =
  mm_cI [(0, 1)] (cl 128 [.ref a0, .int x1, .int x2] h) fun v_2 h_1 =>
  mm_wJ h_1 a3 0 (Int32.toInt64 v_2) fun h_3 =>
  some (.inl (some (.int 0)), h_3) := rfl
-- Law.frontier
set_option maxRecDepth 20000 in
set_option maxHeartbeats 4000000 in
theorem mm_e281_0 (E : mm_E) (cl : mm_F) (n : Nat) (a0 : Nat) (x1 : Int32) (a2 : Nat) (h : mm_H) :
  mm_run E cl mm_m281 (n + 1) 0 [some (.ref a0), some (.int x1), some (.ref a2), none] [] h =
  mm_cI [(0, 1)] (cl 129 [.ref a0, .int x1] h) fun v_2 h_1 =>
  mm_wJ h_1 a2 0 (Int32.toInt64 v_2) fun h_3 =>
  some (.inl (some (.int 0)), h_3) := rfl
-- Law.law
set_option maxRecDepth 20000 in
set_option maxHeartbeats 4000000 in
theorem mm_e282_0 (E : mm_E) (cl : mm_F) (n : Nat) (a0 : Nat) (h : mm_H) :
  mm_run E cl mm_m282 (n + 1) 0 [some (.ref a0), none, none, none, none, none, none] [] h =
  mm_al h (.inl (8, mm_new.getD 8 [])) (mm_new.getD 8 []).length fun p_1 h_2 =>
  mm_cV [] (cl 101 [.ref p_1] h_2) fun h_3 =>
  mm_al h_3 (.inl (9, mm_new.getD 9 [])) (mm_new.getD 9 []).length fun p_4 h_5 =>
  mm_cV [] (cl 148 [.ref p_4] h_5) fun h_6 =>
  mm_nn 1 fun k_9 => mm_al h_6 (.inr (.inr (.inl (k_9, fun _ => 0)))) k_9 fun p_7 h_8 =>
  mm_run E cl mm_m282 n 23 [some (.ref a0), some (.ref p_1), some (.ref p_4), some (.ref p_7), some (.int 0), none, none] [] h_8 := rfl
-- Law.law
set_option maxRecDepth 20000 in
set_option maxHeartbeats 4000000 in
theorem mm_e282_23 (E : mm_E) (cl : mm_F) (n : Nat) (a0 : Nat) (a1 : Nat) (a2 : Nat) (a3 : Nat) (x4 : Int32) (o5 : Option Value) (o6 : Option Value) (h : mm_H) :
  mm_run E cl mm_m282 (n + 1) 23 [some (.ref a0), some (.ref a1), some (.ref a2), some (.ref a3), some (.int x4), o5, o6] [] h =
  mm_ln E h a0 fun v_1 =>
  (mm_br ((v_1 - 6) < x4) (
  (mm_bz 1 (some (.inl (some (.int 1)), h)))) (
  mm_rI E h a0 x4 fun v_2 =>
    (mm_br ((v_2 &&& 31) = 0) (
    mm_run E cl mm_m282 n 176 [some (.ref a0), some (.ref a1), some (.ref a2), some (.ref a3), some (.int x4), o5, o6] [] h) (
    (mm_br ((v_2 &&& 31) = 1) (
    mm_run E cl mm_m282 n 249 [some (.ref a0), some (.ref a1), some (.ref a2), some (.ref a3), some (.int x4), o5, o6] [] h) (
    (mm_br ((v_2 &&& 31) = 2) (
    mm_run E cl mm_m282 n 305 [some (.ref a0), some (.ref a1), some (.ref a2), some (.ref a3), some (.int x4), o5, o6] [] h) (
    (mm_br ((v_2 &&& 31) = 3) (
    mm_run E cl mm_m282 n 318 [some (.ref a0), some (.ref a1), some (.ref a2), some (.ref a3), some (.int x4), o5, o6] [] h) (
    (mm_br ((v_2 &&& 31) = 4) (
    mm_run E cl mm_m282 n 374 [some (.ref a0), some (.ref a1), some (.ref a2), some (.ref a3), some (.int x4), o5, o6] [] h) (
    (mm_br ((v_2 &&& 31) = 5) (
    mm_run E cl mm_m282 n 442 [some (.ref a0), some (.ref a1), some (.ref a2), some (.ref a3), some (.int x4), o5, o6] [] h) (
    (mm_br ((v_2 &&& 31) = 6) (
    mm_run E cl mm_m282 n 510 [some (.ref a0), some (.ref a1), some (.ref a2), some (.ref a3), some (.int x4), o5, o6] [] h) (
    (mm_br ((v_2 &&& 31) = 7) (
    mm_run E cl mm_m282 n 590 [some (.ref a0), some (.ref a1), some (.ref a2), some (.ref a3), some (.int x4), o5, o6] [] h) (
    (mm_br ((v_2 &&& 31) = 8) (
    mm_run E cl mm_m282 n 670 [some (.ref a0), some (.ref a1), some (.ref a2), some (.ref a3), some (.int x4), o5, o6] [] h) (
    (mm_br ((v_2 &&& 31) = 9) (
    mm_run E cl mm_m282 n 747 [some (.ref a0), some (.ref a1), some (.ref a2), some (.ref a3), some (.int x4), o5, o6] [] h) (
    (mm_br ((v_2 &&& 31) = 10) (
    mm_run E cl mm_m282 n 784 [some (.ref a0), some (.ref a1), some (.ref a2), some (.ref a3), some (.int x4), o5, o6] [] h) (
    (mm_br ((v_2 &&& 31) = 11) (
    mm_run E cl mm_m282 n 852 [some (.ref a0), some (.ref a1), some (.ref a2), some (.ref a3), some (.int x4), o5, o6] [] h) (
    (mm_br ((v_2 &&& 31) = 12) (
    mm_run E cl mm_m282 n 865 [some (.ref a0), some (.ref a1), some (.ref a2), some (.ref a3), some (.int x4), o5, o6] [] h) (
    (mm_br ((v_2 &&& 31) = 13) (
    mm_run E cl mm_m282 n 890 [some (.ref a0), some (.ref a1), some (.ref a2), some (.ref a3), some (.int x4), o5, o6] [] h) (
    (mm_br ((v_2 &&& 31) = 14) (
    mm_run E cl mm_m282 n 958 [some (.ref a0), some (.ref a1), some (.ref a2), some (.ref a3), some (.int x4), o5, o6] [] h) (
    (mm_br ((v_2 &&& 31) = 15) (
    mm_run E cl mm_m282 n 1026 [some (.ref a0), some (.ref a1), some (.ref a2), some (.ref a3), some (.int x4), o5, o6] [] h) (
    (mm_br ((v_2 &&& 31) = 16) (
    mm_run E cl mm_m282 n 1082 [some (.ref a0), some (.ref a1), some (.ref a2), some (.ref a3), some (.int x4), o5, o6] [] h) (
    (mm_br ((v_2 &&& 31) = 17) (
    mm_run E cl mm_m282 n 1095 [some (.ref a0), some (.ref a1), some (.ref a2), some (.ref a3), some (.int x4), o5, o6] [] h) (
    (mm_br ((v_2 &&& 31) = 18) (
    mm_run E cl mm_m282 n 1163 [some (.ref a0), some (.ref a1), some (.ref a2), some (.ref a3), some (.int x4), o5, o6] [] h) (
    (mm_br ((v_2 &&& 31) = 19) (
    mm_run E cl mm_m282 n 1219 [some (.ref a0), some (.ref a1), some (.ref a2), some (.ref a3), some (.int x4), o5, o6] [] h) (
    (mm_br ((v_2 &&& 31) = 20) (
    mm_run E cl mm_m282 n 1244 [some (.ref a0), some (.ref a1), some (.ref a2), some (.ref a3), some (.int x4), o5, o6] [] h) (
    (mm_br ((v_2 &&& 31) = 21) (
    mm_run E cl mm_m282 n 1312 [some (.ref a0), some (.ref a1), some (.ref a2), some (.ref a3), some (.int x4), o5, o6] [] h) (
    (mm_br ((v_2 &&& 31) = 22) (
    mm_run E cl mm_m282 n 1392 [some (.ref a0), some (.ref a1), some (.ref a2), some (.ref a3), some (.int x4), o5, o6] [] h) (
    (mm_br ((v_2 &&& 31) = 23) (
    mm_run E cl mm_m282 n 1460 [some (.ref a0), some (.ref a1), some (.ref a2), some (.ref a3), some (.int x4), o5, o6] [] h) (
    (mm_br ((v_2 &&& 31) = 24) (
    mm_run E cl mm_m282 n 1540 [some (.ref a0), some (.ref a1), some (.ref a2), some (.ref a3), some (.int x4), o5, o6] [] h) (
    (mm_br ((v_2 &&& 31) = 25) (
    mm_run E cl mm_m282 n 1608 [some (.ref a0), some (.ref a1), some (.ref a2), some (.ref a3), some (.int x4), o5, o6] [] h) (
    (mm_br ((v_2 &&& 31) = 26) (
    mm_run E cl mm_m282 n 1664 [some (.ref a0), some (.ref a1), some (.ref a2), some (.ref a3), some (.int x4), o5, o6] [] h) (
    (mm_br ((v_2 &&& 31) = 27) (
    mm_run E cl mm_m282 n 1732 [some (.ref a0), some (.ref a1), some (.ref a2), some (.ref a3), some (.int x4), o5, o6] [] h) (
    (mm_br ((v_2 &&& 31) = 28) (
    mm_run E cl mm_m282 n 1788 [some (.ref a0), some (.ref a1), some (.ref a2), some (.ref a3), some (.int x4), o5, o6] [] h) (
    (mm_br ((v_2 &&& 31) = 29) (
    mm_run E cl mm_m282 n 1799 [some (.ref a0), some (.ref a1), some (.ref a2), some (.ref a3), some (.int x4), o5, o6] [] h) (
    mm_run E cl mm_m282 n 1812 [some (.ref a0), some (.ref a1), some (.ref a2), some (.ref a3), some (.int x4), o5, o6] [] h)))))))))))))))))))))))))))))))))))))))))))))))))))))))))))))) := rfl
-- Law.law
set_option maxRecDepth 20000 in
set_option maxHeartbeats 4000000 in
theorem mm_e282_176 (E : mm_E) (cl : mm_F) (n : Nat) (a0 : Nat) (a1 : Nat) (a2 : Nat) (a3 : Nat) (x4 : Int32) (o5 : Option Value) (o6 : Option Value) (h : mm_H) :
  mm_run E cl mm_m282 (n + 1) 176 [some (.ref a0), some (.ref a1), some (.ref a2), some (.ref a3), some (.int x4), o5, o6] [] h =
  mm_rI E h a0 (x4 + 1) fun v_1 =>
  mm_rI E h a0 (x4 + 2) fun v_2 =>
  mm_rI E h a0 (x4 + 3) fun v_3 =>
  mm_rI E h a0 (x4 + 4) fun v_4 =>
  mm_rI E h a0 (x4 + 5) fun v_5 =>
  mm_cI [] (cl 102 [.ref a1, .int v_1, .int v_2, .int v_3, .int v_4, .int v_5] h) fun v_7 h_6 =>
  mm_rI E h_6 a0 (x4 + 1) fun v_8 =>
  mm_rI E h_6 a0 (x4 + 2) fun v_9 =>
  mm_rI E h_6 a0 (x4 + 3) fun v_10 =>
  mm_rI E h_6 a0 (x4 + 4) fun v_11 =>
  mm_rI E h_6 a0 (x4 + 5) fun v_12 =>
  mm_cI [] (cl 228 [.ref a2, .int v_8, .int v_9, .int v_10, .int v_11, .int v_12] h_6) fun v_14 h_13 =>
  (mm_br (v_7 = v_14) (
  mm_run E cl mm_m282 n 1812 [some (.ref a0), some (.ref a1), some (.ref a2), some (.ref a3), some (.int x4), o5, o6] [] h_13) (
  (mm_bz 0 (some (.inl (some (.int 0)), h_13))))) := rfl
-- Law.law
set_option maxRecDepth 20000 in
set_option maxHeartbeats 4000000 in
theorem mm_e282_249 (E : mm_E) (cl : mm_F) (n : Nat) (a0 : Nat) (a1 : Nat) (a2 : Nat) (a3 : Nat) (x4 : Int32) (o5 : Option Value) (o6 : Option Value) (h : mm_H) :
  mm_run E cl mm_m282 (n + 1) 249 [some (.ref a0), some (.ref a1), some (.ref a2), some (.ref a3), some (.int x4), o5, o6] [] h =
  mm_rI E h a0 (x4 + 1) fun v_1 =>
  mm_cI [] (cl 262 [.ref a1, .int v_1, .ref a3] h) fun v_3 h_2 =>
  mm_rI E h_2 a0 (x4 + 1) fun v_4 =>
  mm_cI [] (cl 248 [.ref a2, .int v_4] h_2) fun v_6 h_5 =>
  mm_cI [] (cl 145 [.ref a2] h_5) fun v_8 h_7 =>
  (mm_br (v_8 = v_3) (
  (mm_br (v_3 = 0) (
    mm_rJ h_7 a3 0 fun w_9 =>
      (mm_br ((lg_cmp w_9 (Int32.toInt64 v_6)) = 0) (
      mm_run E cl mm_m282 n 1812 [some (.ref a0), some (.ref a1), some (.ref a2), some (.ref a3), some (.int x4), some (.int v_3), some (.int v_6)] [] h_7) (
      (mm_bz 0 (some (.inl (some (.int 0)), h_7)))))) (
    mm_run E cl mm_m282 n 1812 [some (.ref a0), some (.ref a1), some (.ref a2), some (.ref a3), some (.int x4), some (.int v_3), some (.int v_6)] [] h_7))) (
  (mm_bz 0 (some (.inl (some (.int 0)), h_7))))) := rfl
-- Law.law
set_option maxRecDepth 20000 in
set_option maxHeartbeats 4000000 in
theorem mm_e282_305 (E : mm_E) (cl : mm_F) (n : Nat) (a0 : Nat) (a1 : Nat) (a2 : Nat) (a3 : Nat) (x4 : Int32) (o5 : Option Value) (o6 : Option Value) (h : mm_H) :
  mm_run E cl mm_m282 (n + 1) 305 [some (.ref a0), some (.ref a1), some (.ref a2), some (.ref a3), some (.int x4), o5, o6] [] h =
  mm_cI [] (cl 104 [.ref a1] h) fun v_2 h_1 =>
  mm_cI [] (cl 241 [.ref a2] h_1) fun v_4 h_3 =>
  (mm_br (v_2 = v_4) (
  mm_run E cl mm_m282 n 1812 [some (.ref a0), some (.ref a1), some (.ref a2), some (.ref a3), some (.int x4), o5, o6] [] h_3) (
  (mm_bz 0 (some (.inl (some (.int 0)), h_3))))) := rfl
-- Law.law
set_option maxRecDepth 20000 in
set_option maxHeartbeats 4000000 in
theorem mm_e282_318 (E : mm_E) (cl : mm_F) (n : Nat) (a0 : Nat) (a1 : Nat) (a2 : Nat) (a3 : Nat) (x4 : Int32) (o5 : Option Value) (o6 : Option Value) (h : mm_H) :
  mm_run E cl mm_m282 (n + 1) 318 [some (.ref a0), some (.ref a1), some (.ref a2), some (.ref a3), some (.int x4), o5, o6] [] h =
  mm_rI E h a0 (x4 + 1) fun v_1 =>
  mm_cI [] (cl 263 [.ref a1, .int v_1, .ref a3] h) fun v_3 h_2 =>
  mm_rI E h_2 a0 (x4 + 1) fun v_4 =>
  mm_cI [] (cl 168 [.ref a2, .int v_4] h_2) fun v_6 h_5 =>
  mm_cI [] (cl 145 [.ref a2] h_5) fun v_8 h_7 =>
  (mm_br (v_8 = v_3) (
  (mm_br (v_3 = 0) (
    mm_rJ h_7 a3 0 fun w_9 =>
      (mm_br ((lg_cmp w_9 (Int32.toInt64 v_6)) = 0) (
      mm_run E cl mm_m282 n 1812 [some (.ref a0), some (.ref a1), some (.ref a2), some (.ref a3), some (.int x4), some (.int v_3), some (.int v_6)] [] h_7) (
      (mm_bz 0 (some (.inl (some (.int 0)), h_7)))))) (
    mm_run E cl mm_m282 n 1812 [some (.ref a0), some (.ref a1), some (.ref a2), some (.ref a3), some (.int x4), some (.int v_3), some (.int v_6)] [] h_7))) (
  (mm_bz 0 (some (.inl (some (.int 0)), h_7))))) := rfl
