/-! EQUATIONS of the runs, part 2 (by program: wip/whole/genpure.py) -/
-- Que.joined
def mm_r73_0 (E : mm_E) (cl : mm_F) (n : Nat) (x0 : Int32) (x1 : Int32) (x2 : Int32) (h : mm_H) : mm_R := mm_run E cl mm_m73 n 0 [some (.int x0), some (.int x1), some (.int x2)] [] h
set_option maxRecDepth 20000 in
set_option maxHeartbeats 4000000 in
theorem mm_e73_0 (E : mm_E) (cl : mm_F) (n : Nat) (x0 : Int32) (x1 : Int32) (x2 : Int32) (h : mm_H) :
  mm_r73_0 E cl (n + 1) x0 x1 x2 h =
  (mm_br (x0 = (mm_i 30)) (
  some (.inl (some (.int (x1 * x2))), h)) (
  (mm_br (x0 = (mm_i 31)) (
  some (.inl (some (.int (x1 + x2))), h)) (
  (mm_br (x0 = (mm_i 32)) (
  some (.inl (some (.int (x1 - x2))), h)) (
  (mm_br (x0 = (mm_i 33)) (
  (mm_br (x2 ≤ x1) (
    some (.inl (some (.int (mm_i 0))), h)) (
    some (.inl (some (.int (mm_i 1))), h)))) (
  (mm_br (x0 = (mm_i 34)) (
  (mm_br (x1 = x2) (
    some (.inl (some (.int (mm_i 1))), h)) (
    some (.inl (some (.int (mm_i 0))), h)))) (
  (mm_br (x0 = (mm_i 35)) (
  (mm_br (x1 ≤ x2) (
    some (.inl (some (.int (mm_i 0))), h)) (
    some (.inl (some (.int (mm_i 1))), h)))) (
  (mm_br (x0 = (mm_i 36)) (
  some (.inl (some (.int (x1 ||| x2))), h)) (
  (mm_br (x0 = (mm_i 37)) (
  some (.inl (some (.int (x1 &&& x2))), h)) (
  some (.inl (some (.int (x1 ||| x2))), h))))))))))))))))) := rfl
-- Que.valueOf
def mm_r74_0 (E : mm_E) (cl : mm_F) (n : Nat) (a0 : Nat) (x1 : Int32) (x2 : Int32) (h : mm_H) : mm_R := mm_run E cl mm_m74 n 0 [some (.ref a0), some (.int x1), some (.int x2)] [] h
set_option maxRecDepth 20000 in
set_option maxHeartbeats 4000000 in
theorem mm_e74_0 (E : mm_E) (cl : mm_F) (n : Nat) (a0 : Nat) (x1 : Int32) (x2 : Int32) (h : mm_H) :
  mm_r74_0 E cl (n + 1) a0 x1 x2 h =
  (mm_br (x2 = (mm_i 0)) (
  some (.inl (some (.int x1)), h)) (
  (mm_br (x2 = (mm_i 1)) (
  (mm_br ((mm_i 8) ≤ x2) (
    mm_gR h a0 4 1 fun p_62 =>
      mm_cI [] (cl 52 [.ref p_62, .int x1, .int (x2 - (mm_i 13))] h) fun v_64 h_63 =>
      some (.inl (some (.int v_64)), h_63)) (
    mm_gR h a0 4 1 fun p_65 =>
      mm_cI [] (cl 30 [.ref p_65, .int x1, .int (x2 - (mm_i 1))] h) fun v_67 h_66 =>
      some (.inl (some (.int v_67)), h_66)))) (
  (mm_br (x2 = (mm_i 2)) (
  (mm_br ((mm_i 8) ≤ x2) (
    mm_gR h a0 4 1 fun p_56 =>
      mm_cI [] (cl 52 [.ref p_56, .int x1, .int (x2 - (mm_i 13))] h) fun v_58 h_57 =>
      some (.inl (some (.int v_58)), h_57)) (
    mm_gR h a0 4 1 fun p_59 =>
      mm_cI [] (cl 30 [.ref p_59, .int x1, .int (x2 - (mm_i 1))] h) fun v_61 h_60 =>
      some (.inl (some (.int v_61)), h_60)))) (
  (mm_br (x2 = (mm_i 3)) (
  (mm_br ((mm_i 8) ≤ x2) (
    mm_gR h a0 4 1 fun p_50 =>
      mm_cI [] (cl 52 [.ref p_50, .int x1, .int (x2 - (mm_i 13))] h) fun v_52 h_51 =>
      some (.inl (some (.int v_52)), h_51)) (
    mm_gR h a0 4 1 fun p_53 =>
      mm_cI [] (cl 30 [.ref p_53, .int x1, .int (x2 - (mm_i 1))] h) fun v_55 h_54 =>
      some (.inl (some (.int v_55)), h_54)))) (
  (mm_br (x2 = (mm_i 4)) (
  (mm_br ((mm_i 8) ≤ x2) (
    mm_gR h a0 4 1 fun p_44 =>
      mm_cI [] (cl 52 [.ref p_44, .int x1, .int (x2 - (mm_i 13))] h) fun v_46 h_45 =>
      some (.inl (some (.int v_46)), h_45)) (
    mm_gR h a0 4 1 fun p_47 =>
      mm_cI [] (cl 30 [.ref p_47, .int x1, .int (x2 - (mm_i 1))] h) fun v_49 h_48 =>
      some (.inl (some (.int v_49)), h_48)))) (
  (mm_br (x2 = (mm_i 5)) (
  (mm_br ((mm_i 8) ≤ x2) (
    mm_gR h a0 4 1 fun p_38 =>
      mm_cI [] (cl 52 [.ref p_38, .int x1, .int (x2 - (mm_i 13))] h) fun v_40 h_39 =>
      some (.inl (some (.int v_40)), h_39)) (
    mm_gR h a0 4 1 fun p_41 =>
      mm_cI [] (cl 30 [.ref p_41, .int x1, .int (x2 - (mm_i 1))] h) fun v_43 h_42 =>
      some (.inl (some (.int v_43)), h_42)))) (
  (mm_br (x2 = (mm_i 6)) (
  (mm_br ((mm_i 8) ≤ x2) (
    mm_gR h a0 4 1 fun p_32 =>
      mm_cI [] (cl 52 [.ref p_32, .int x1, .int (x2 - (mm_i 13))] h) fun v_34 h_33 =>
      some (.inl (some (.int v_34)), h_33)) (
    mm_gR h a0 4 1 fun p_35 =>
      mm_cI [] (cl 30 [.ref p_35, .int x1, .int (x2 - (mm_i 1))] h) fun v_37 h_36 =>
      some (.inl (some (.int v_37)), h_36)))) (
  (mm_br (x2 = (mm_i 7)) (
  (mm_br ((mm_i 8) ≤ x2) (
    mm_gR h a0 4 1 fun p_26 =>
      mm_cI [] (cl 52 [.ref p_26, .int x1, .int (x2 - (mm_i 13))] h) fun v_28 h_27 =>
      some (.inl (some (.int v_28)), h_27)) (
    mm_gR h a0 4 1 fun p_29 =>
      mm_cI [] (cl 30 [.ref p_29, .int x1, .int (x2 - (mm_i 1))] h) fun v_31 h_30 =>
      some (.inl (some (.int v_31)), h_30)))) (
  (mm_br (x2 = (mm_i 8)) (
  mm_gR h a0 4 1 fun p_23 =>
    mm_gR h p_23 3 7 fun p_24 =>
    mm_rI E h p_24 x1 fun v_25 =>
    some (.inl (some (.int v_25)), h)) (
  (mm_br (x2 = (mm_i 9)) (
  mm_gR h a0 4 1 fun p_20 =>
    mm_gR h p_20 3 8 fun p_21 =>
    mm_rI E h p_21 x1 fun v_22 =>
    some (.inl (some (.int v_22)), h)) (
  (mm_br (x2 = (mm_i 10)) (
  mm_gR h a0 4 1 fun p_17 =>
    mm_gR h p_17 3 9 fun p_18 =>
    mm_rI E h p_18 x1 fun v_19 =>
    some (.inl (some (.int v_19)), h)) (
  (mm_br (x2 = (mm_i 11)) (
  mm_gR h a0 4 1 fun p_12 =>
    mm_gR h p_12 3 2 fun p_13 =>
    mm_rI E h p_13 x1 fun v_14 =>
    mm_cI [] (cl 283 [.int v_14] h) fun v_16 h_15 =>
    some (.inl (some (.int v_16)), h_15)) (
  (mm_br (x2 = (mm_i 12)) (
  mm_gR h a0 4 1 fun p_7 =>
    mm_gR h p_7 3 3 fun p_8 =>
    mm_rI E h p_8 x1 fun v_9 =>
    mm_cI [] (cl 283 [.int v_9] h) fun v_11 h_10 =>
    some (.inl (some (.int v_11)), h_10)) (
  (mm_br ((mm_i 8) ≤ x2) (
  mm_gR h a0 4 1 fun p_1 =>
    mm_cI [] (cl 52 [.ref p_1, .int x1, .int (x2 - (mm_i 13))] h) fun v_3 h_2 =>
    some (.inl (some (.int v_3)), h_2)) (
  mm_gR h a0 4 1 fun p_4 =>
    mm_cI [] (cl 30 [.ref p_4, .int x1, .int (x2 - (mm_i 1))] h) fun v_6 h_5 =>
    some (.inl (some (.int v_6)), h_5))))))))))))))))))))))))))))) := rfl
-- Row.init
def mm_r75_0 (E : mm_E) (cl : mm_F) (n : Nat) (a0 : Nat) (x1 : Int32) (h : mm_H) : mm_R := mm_run E cl mm_m75 n 0 [some (.ref a0), some (.int x1)] [] h
set_option maxRecDepth 20000 in
set_option maxHeartbeats 4000000 in
theorem mm_e75_0 (E : mm_E) (cl : mm_F) (n : Nat) (a0 : Nat) (x1 : Int32) (h : mm_H) :
  mm_r75_0 E cl (n + 1) a0 x1 h =
  mm_nn x1 fun k_3 => mm_al h (.inr (.inr (.inl (k_3, fun _ => 0)))) k_3 fun p_1 h_2 =>
  mm_pF h_2 a0 5 0 (.ref p_1) fun h_4 =>
  mm_nn x1 fun k_7 => mm_al h_4 (.inr (.inr (.inl (k_7, fun _ => 0)))) k_7 fun p_5 h_6 =>
  mm_pF h_6 a0 5 1 (.ref p_5) fun h_8 =>
  some (.inl none, h_8) := rfl
-- Row.put
def mm_r76_0 (E : mm_E) (cl : mm_F) (n : Nat) (a0 : Nat) (x1 : Int32) (y2 : Int64) (y4 : Int64) (h : mm_H) : mm_R := mm_run E cl mm_m76 n 0 [some (.ref a0), some (.int x1), some (.long y2), none, some (.long y4), none, none] [] h
def mm_r76_32 (E : mm_E) (cl : mm_F) (n : Nat) (a0 : Nat) (x1 : Int32) (y2 : Int64) (y4 : Int64) (x6 : Int32) (b0 : Nat) (s1 : Int32) (t2 : Int64) (h : mm_H) : mm_R := mm_run E cl mm_m76 n 32 [some (.ref a0), some (.int x1), some (.long y2), none, some (.long y4), none, some (.int x6)] [.long t2, .int s1, .ref b0] h
set_option maxRecDepth 20000 in
set_option maxHeartbeats 4000000 in
theorem mm_e76_0 (E : mm_E) (cl : mm_F) (n : Nat) (a0 : Nat) (x1 : Int32) (y2 : Int64) (y4 : Int64) (h : mm_H) :
  mm_r76_0 E cl (n + 1) a0 x1 y2 y4 h =
  (mm_br ((mm_i 0) ≤ (lg_cmp y2 (mm_j 288230376151711744))) (
  mm_gR h a0 5 0 fun p_1 =>
    (mm_br ((mm_i 0) = (mm_i 0)) (
    mm_r76_32 E cl n a0 x1 y2 y4 (mm_i 0) p_1 x1 (mm_j 288230376151711744) h) (
    mm_r76_32 E cl n a0 x1 y2 y4 (mm_i 0) p_1 x1 y2 h))) (
  mm_gR h a0 5 0 fun p_2 =>
    (mm_br ((mm_i 1) = (mm_i 0)) (
    mm_r76_32 E cl n a0 x1 y2 y4 (mm_i 1) p_2 x1 (mm_j 288230376151711744) h) (
    mm_r76_32 E cl n a0 x1 y2 y4 (mm_i 1) p_2 x1 y2 h)))) := rfl
set_option maxRecDepth 20000 in
set_option maxHeartbeats 4000000 in
theorem mm_e76_32 (E : mm_E) (cl : mm_F) (n : Nat) (a0 : Nat) (x1 : Int32) (y2 : Int64) (y4 : Int64) (x6 : Int32) (b0 : Nat) (s1 : Int32) (t2 : Int64) (h : mm_H) :
  mm_r76_32 E cl (n + 1) a0 x1 y2 y4 x6 b0 s1 t2 h =
  mm_wJ h b0 s1 t2 fun h_1 =>
  mm_gR h_1 a0 5 1 fun p_2 =>
  (mm_br (x6 = (mm_i 0)) (
  mm_wJ h_1 p_2 x1 (mm_j 0) fun h_3 =>
    some (.inl none, h_3)) (
  mm_wJ h_1 p_2 x1 y4 fun h_4 =>
    some (.inl none, h_4))) := rfl
-- Row.lower
def mm_r77_0 (E : mm_E) (cl : mm_F) (n : Nat) (a0 : Nat) (x1 : Int32) (y2 : Int64) (y4 : Int64) (h : mm_H) : mm_R := mm_run E cl mm_m77 n 0 [some (.ref a0), some (.int x1), some (.long y2), none, some (.long y4), none] [] h
set_option maxRecDepth 20000 in
set_option maxHeartbeats 4000000 in
theorem mm_e77_0 (E : mm_E) (cl : mm_F) (n : Nat) (a0 : Nat) (x1 : Int32) (y2 : Int64) (y4 : Int64) (h : mm_H) :
  mm_r77_0 E cl (n + 1) a0 x1 y2 y4 h =
  mm_gR h a0 5 0 fun p_1 =>
  mm_rJ h p_1 x1 fun w_2 =>
  (mm_br ((lg_cmp y2 w_2) < (mm_i 0)) (
  mm_gR h a0 5 0 fun p_3 =>
    mm_wJ h p_3 x1 y2 fun h_4 =>
    mm_gR h_4 a0 5 1 fun p_5 =>
    mm_wJ h_4 p_5 x1 y4 fun h_6 =>
    some (.inl none, h_6)) (
  mm_gR h a0 5 0 fun p_7 =>
    mm_rJ h p_7 x1 fun w_8 =>
    (mm_br ((lg_cmp y2 w_8) = (mm_i 0)) (
    mm_gR h a0 5 1 fun p_9 =>
      mm_rJ h p_9 x1 fun w_10 =>
      (mm_br ((mm_i 0) ≤ (lg_cmp y4 w_10)) (
      some (.inl none, h)) (
      mm_gR h a0 5 0 fun p_11 =>
        mm_wJ h p_11 x1 y2 fun h_12 =>
        mm_gR h_12 a0 5 1 fun p_13 =>
        mm_wJ h_12 p_13 x1 y4 fun h_14 =>
        some (.inl none, h_14)))) (
    some (.inl none, h))))) := rfl
-- Tel.init
def mm_r78_0 (E : mm_E) (cl : mm_F) (n : Nat) (a0 : Nat) (a1 : Nat) (a2 : Nat) (h : mm_H) : mm_R := mm_run E cl mm_m78 n 0 [some (.ref a0), some (.ref a1), some (.ref a2)] [] h
set_option maxRecDepth 20000 in
set_option maxHeartbeats 4000000 in
theorem mm_e78_0 (E : mm_E) (cl : mm_F) (n : Nat) (a0 : Nat) (a1 : Nat) (a2 : Nat) (h : mm_H) :
  mm_r78_0 E cl (n + 1) a0 a1 a2 h =
  mm_pF h a0 6 2 (.int (mm_i 0)) fun h_1 =>
  mm_pF h_1 a0 6 0 (.ref a1) fun h_2 =>
  mm_pF h_2 a0 6 1 (.ref a2) fun h_3 =>
  some (.inl none, h_3) := rfl
-- Tel.read
def mm_r79_0 (E : mm_E) (cl : mm_F) (n : Nat) (a0 : Nat) (x1 : Int32) (h : mm_H) : mm_R := mm_run E cl mm_m79 n 0 [some (.ref a0), some (.int x1), none] [] h
def mm_r79_22 (E : mm_E) (cl : mm_F) (n : Nat) (a0 : Nat) (x1 : Int32) (x2 : Int32) (h : mm_H) : mm_R := mm_run E cl mm_m79 n 22 [some (.ref a0), some (.int x1), some (.int x2)] [] h
set_option maxRecDepth 20000 in
set_option maxHeartbeats 4000000 in
theorem mm_e79_0 (E : mm_E) (cl : mm_F) (n : Nat) (a0 : Nat) (x1 : Int32) (h : mm_H) :
  mm_r79_0 E cl (n + 1) a0 x1 h =
  mm_pF h a0 6 2 (.int (mm_i 0)) fun h_1 =>
  mm_gR h_1 a0 6 1 fun p_2 =>
  mm_cV [] (cl 33 [.ref p_2] h_1) fun h_3 =>
  mm_gR h_3 a0 6 0 fun p_4 =>
  mm_cV [] (cl 94 [.ref p_4, .int x1] h_3) fun h_5 =>
  mm_r79_22 E cl n a0 x1 (mm_i 0) h_5 := rfl
set_option maxRecDepth 20000 in
set_option maxHeartbeats 4000000 in
theorem mm_e79_22 (E : mm_E) (cl : mm_F) (n : Nat) (a0 : Nat) (x1 : Int32) (x2 : Int32) (h : mm_H) :
  mm_r79_22 E cl (n + 1) a0 x1 x2 h =
  (mm_br ((mm_i 400) ≤ x2) (
  mm_gR h a0 6 1 fun p_1 =>
    mm_cV [] (cl 43 [.ref p_1] h) fun h_2 =>
    mm_gI h_2 a0 6 2 fun v_3 =>
    some (.inl (some (.int v_3)), h_2)) (
  mm_gI h a0 6 2 fun v_4 =>
    (mm_br (v_4 = (mm_i 0)) (
    mm_gR h a0 6 0 fun p_8 =>
      mm_gI h p_8 7 5 fun v_9 =>
      (mm_br (v_9 = (mm_i 0)) (
      mm_gR h a0 6 1 fun p_10 =>
        mm_cV [] (cl 43 [.ref p_10] h) fun h_11 =>
        mm_gI h_11 a0 6 2 fun v_12 =>
        some (.inl (some (.int v_12)), h_11)) (
      mm_cI [] (cl 80 [.ref a0] h) fun v_14 h_13 =>
        (mm_br (v_14 = (mm_i 0)) (
        mm_r79_22 E cl n a0 x1 (x2 + (mm_i 1)) h_13) (
        mm_cI [] (cl 81 [.ref a0] h_13) fun v_16 h_15 =>
          (mm_br (v_16 = (mm_i 0)) (
          mm_r79_22 E cl n a0 x1 (x2 + (mm_i 1)) h_15) (
          mm_gR h_15 a0 6 0 fun p_17 =>
            mm_cV [] (cl 95 [.ref p_17] h_15) fun h_18 =>
            mm_r79_22 E cl n a0 x1 (x2 + (mm_i 1)) h_18))))))) (
    mm_gR h a0 6 1 fun p_5 =>
      mm_cV [] (cl 43 [.ref p_5] h) fun h_6 =>
      mm_gI h_6 a0 6 2 fun v_7 =>
      some (.inl (some (.int v_7)), h_6))))) := rfl
-- Tel.readLine
def mm_r80_0 (E : mm_E) (cl : mm_F) (n : Nat) (a0 : Nat) (h : mm_H) : mm_R := mm_run E cl mm_m80 n 0 [some (.ref a0)] [] h
set_option maxRecDepth 20000 in
set_option maxHeartbeats 4000000 in
theorem mm_e80_0 (E : mm_E) (cl : mm_F) (n : Nat) (a0 : Nat) (h : mm_H) :
  mm_r80_0 E cl (n + 1) a0 h =
  mm_gR h a0 6 0 fun p_1 =>
  mm_cI [] (cl 98 [.ref p_1, .ref (E.2.2.1 1)] h) fun v_3 h_2 =>
  (mm_br (v_3 = (mm_i 0)) (
  mm_cI [] (cl 82 [.ref a0] h_2) fun v_11 h_10 =>
    (mm_bz v_11 (some (.inl (some (.int v_11)), h_10)))) (
  (mm_br (v_3 = (mm_i 1)) (
  mm_cI [] (cl 86 [.ref a0] h_2) fun v_9 h_8 =>
    (mm_bz v_9 (some (.inl (some (.int v_9)), h_8)))) (
  (mm_br (v_3 = (mm_i 2)) (
  mm_cI [] (cl 85 [.ref a0] h_2) fun v_7 h_6 =>
    (mm_bz v_7 (some (.inl (some (.int v_7)), h_6)))) (
  mm_cI [] (cl 91 [.ref a0, .int (mm_i 1)] h_2) fun v_5 h_4 =>
  (mm_bz v_5 (some (.inl (some (.int v_5)), h_4))))))))) := rfl
-- Tel.endLine
def mm_r81_0 (E : mm_E) (cl : mm_F) (n : Nat) (a0 : Nat) (h : mm_H) : mm_R := mm_run E cl mm_m81 n 0 [some (.ref a0)] [] h
set_option maxRecDepth 20000 in
set_option maxHeartbeats 4000000 in
theorem mm_e81_0 (E : mm_E) (cl : mm_F) (n : Nat) (a0 : Nat) (h : mm_H) :
  mm_r81_0 E cl (n + 1) a0 h =
  mm_gR h a0 6 0 fun p_1 =>
  mm_cI [] (cl 96 [.ref p_1, .int (mm_i 59)] h) fun v_3 h_2 =>
  (mm_br (v_3 = (mm_i 0)) (
  mm_cI [] (cl 91 [.ref a0, .int (mm_i 1)] h_2) fun v_5 h_4 =>
    (mm_br (v_5 = (mm_i 0)) (
    (mm_bz (mm_i 0) (some (.inl (some (.int (mm_i 0))), h_4)))) (
    (mm_bz (mm_i 1) (some (.inl (some (.int (mm_i 1))), h_4)))))) (
  (mm_bz (mm_i 1) (some (.inl (some (.int (mm_i 1))), h_2))))) := rfl
-- Tel.readStage
def mm_r82_0 (E : mm_E) (cl : mm_F) (n : Nat) (a0 : Nat) (h : mm_H) : mm_R := mm_run E cl mm_m82 n 0 [some (.ref a0)] [] h
def mm_r82_68 (E : mm_E) (cl : mm_F) (n : Nat) (a0 : Nat) (h : mm_H) : mm_R := mm_run E cl mm_m82 n 68 [some (.ref a0)] [] h
set_option maxRecDepth 20000 in
set_option maxHeartbeats 4000000 in
theorem mm_e82_0 (E : mm_E) (cl : mm_F) (n : Nat) (a0 : Nat) (h : mm_H) :
  mm_r82_0 E cl (n + 1) a0 h =
  mm_gR h a0 6 1 fun p_1 =>
  mm_gI h p_1 3 10 fun v_2 =>
  (mm_br (v_2 < (mm_i 12)) (
  mm_gR h a0 6 0 fun p_3 =>
    mm_cV [] (cl 95 [.ref p_3] h) fun h_4 =>
    mm_cI [] (cl 83 [.ref a0] h_4) fun v_6 h_5 =>
    (mm_br (v_6 = (mm_i 0)) (
    (mm_bz (mm_i 0) (some (.inl (some (.int (mm_i 0))), h_5)))) (
    mm_cI [] (cl 84 [.ref a0, .int (mm_i 0)] h_5) fun v_8 h_7 =>
      (mm_br (v_8 = (mm_i 0)) (
      (mm_bz (mm_i 0) (some (.inl (some (.int (mm_i 0))), h_7)))) (
      mm_cI [] (cl 84 [.ref a0, .int (mm_i 1)] h_7) fun v_10 h_9 =>
        (mm_br (v_10 = (mm_i 0)) (
        (mm_bz (mm_i 0) (some (.inl (some (.int (mm_i 0))), h_9)))) (
        mm_gR h_9 a0 6 0 fun p_11 =>
          mm_cI [] (cl 97 [.ref p_11, .ref (E.2.2.1 3)] h_9) fun v_13 h_12 =>
          (mm_br (v_13 = (mm_i 0)) (
          mm_r82_68 E cl n a0 h_12) (
          mm_cI [] (cl 84 [.ref a0, .int (mm_i 2)] h_12) fun v_15 h_14 =>
            (mm_br (v_15 = (mm_i 0)) (
            (mm_bz (mm_i 0) (some (.inl (some (.int (mm_i 0))), h_14)))) (
            mm_r82_68 E cl n a0 h_14))))))))))) (
  mm_cI [] (cl 91 [.ref a0, .int (mm_i 5)] h) fun v_17 h_16 =>
    (mm_bz v_17 (some (.inl (some (.int v_17)), h_16))))) := rfl
set_option maxRecDepth 20000 in
set_option maxHeartbeats 4000000 in
theorem mm_e82_68 (E : mm_E) (cl : mm_F) (n : Nat) (a0 : Nat) (h : mm_H) :
  mm_r82_68 E cl (n + 1) a0 h =
  mm_gR h a0 6 0 fun p_1 =>
  mm_cI [] (cl 97 [.ref p_1, .ref (E.2.2.1 4)] h) fun v_3 h_2 =>
  (mm_br (v_3 = (mm_i 0)) (
  mm_gR h_2 a0 6 0 fun p_4 =>
    mm_cI [] (cl 97 [.ref p_4, .ref (E.2.2.1 5)] h_2) fun v_6 h_5 =>
    (mm_br (v_6 = (mm_i 0)) (
    (mm_bz (mm_i 1) (some (.inl (some (.int (mm_i 1))), h_5)))) (
    mm_cI [] (cl 84 [.ref a0, .int (mm_i 5)] h_5) fun v_8 h_7 =>
      (mm_br (v_8 = (mm_i 0)) (
      (mm_bz (mm_i 0) (some (.inl (some (.int (mm_i 0))), h_7)))) (
      (mm_bz (mm_i 1) (some (.inl (some (.int (mm_i 1))), h_7)))))))) (
  mm_cI [] (cl 84 [.ref a0, .int (mm_i 3)] h_2) fun v_10 h_9 =>
    (mm_br (v_10 = (mm_i 0)) (
    (mm_bz (mm_i 0) (some (.inl (some (.int (mm_i 0))), h_9)))) (
    mm_cI [] (cl 84 [.ref a0, .int (mm_i 4)] h_9) fun v_12 h_11 =>
      (mm_br (v_12 = (mm_i 0)) (
      (mm_bz (mm_i 0) (some (.inl (some (.int (mm_i 0))), h_11)))) (
      mm_gR h_11 a0 6 0 fun p_13 =>
        mm_cI [] (cl 97 [.ref p_13, .ref (E.2.2.1 5)] h_11) fun v_15 h_14 =>
        (mm_br (v_15 = (mm_i 0)) (
        (mm_bz (mm_i 1) (some (.inl (some (.int (mm_i 1))), h_14)))) (
        mm_cI [] (cl 84 [.ref a0, .int (mm_i 5)] h_14) fun v_17 h_16 =>
          (mm_br (v_17 = (mm_i 0)) (
          (mm_bz (mm_i 0) (some (.inl (some (.int (mm_i 0))), h_16)))) (
          (mm_bz (mm_i 1) (some (.inl (some (.int (mm_i 1))), h_16))))))))))))) := rfl
-- Tel.readNewName
def mm_r83_0 (E : mm_E) (cl : mm_F) (n : Nat) (a0 : Nat) (h : mm_H) : mm_R := mm_run E cl mm_m83 n 0 [some (.ref a0), none, none] [] h
def mm_r83_37 (E : mm_E) (cl : mm_F) (n : Nat) (a0 : Nat) (x1 : Int32) (x2 : Int32) (h : mm_H) : mm_R := mm_run E cl mm_m83 n 37 [some (.ref a0), some (.int x1), some (.int x2)] [] h
set_option maxRecDepth 20000 in
set_option maxHeartbeats 4000000 in
theorem mm_e83_0 (E : mm_E) (cl : mm_F) (n : Nat) (a0 : Nat) (h : mm_H) :
  mm_r83_0 E cl (n + 1) a0 h =
  mm_cI [] (cl 88 [.ref a0] h) fun v_2 h_1 =>
  (mm_br (v_2 = (mm_i 0)) (
  mm_cI [] (cl 91 [.ref a0, .int (mm_i 1)] h_1) fun v_11 h_10 =>
    (mm_bz v_11 (some (.inl (some (.int v_11)), h_10)))) (
  mm_cI [] (cl 89 [.ref a0] h_1) fun v_4 h_3 =>
    (mm_br (v_4 = (mm_i (-1))) (
    mm_gR h_3 a0 6 1 fun p_5 =>
      mm_cI [] (cl 36 [.ref p_5] h_3) fun v_7 h_6 =>
      mm_r83_37 E cl n a0 v_7 (mm_i 0) h_6) (
    mm_cI [] (cl 91 [.ref a0, .int (mm_i 3)] h_3) fun v_9 h_8 =>
      (mm_bz v_9 (some (.inl (some (.int v_9)), h_8))))))) := rfl
set_option maxRecDepth 20000 in
set_option maxHeartbeats 4000000 in
theorem mm_e83_37 (E : mm_E) (cl : mm_F) (n : Nat) (a0 : Nat) (x1 : Int32) (x2 : Int32) (h : mm_H) :
  mm_r83_37 E cl (n + 1) a0 x1 x2 h =
  (mm_br ((mm_i 6) ≤ x2) (
  mm_gR h a0 6 0 fun p_1 =>
    mm_cV [] (cl 95 [.ref p_1] h) fun h_2 =>
    (mm_bz (mm_i 1) (some (.inl (some (.int (mm_i 1))), h_2)))) (
  (mm_br (x1 = (mm_i (-1))) (
    mm_gR h a0 6 0 fun p_3 =>
      mm_cV [] (cl 95 [.ref p_3] h) fun h_4 =>
      (mm_bz (mm_i 1) (some (.inl (some (.int (mm_i 1))), h_4)))) (
    mm_gR h a0 6 1 fun p_5 =>
      mm_gR h p_5 3 1 fun p_6 =>
      mm_gR h a0 6 0 fun p_7 =>
      mm_gI h p_7 7 3 fun v_8 =>
      mm_cI [] (cl 90 [.ref a0, .int (v_8 + x2)] h) fun v_10 h_9 =>
      mm_wI h_9 p_6 ((x1 * (mm_i 6)) + x2) v_10 fun h_11 =>
      mm_r83_37 E cl n a0 x1 (x2 + (mm_i 1)) h_11)))) := rfl
-- Tel.readTold
def mm_r84_0 (E : mm_E) (cl : mm_F) (n : Nat) (a0 : Nat) (x1 : Int32) (h : mm_H) : mm_R := mm_run E cl mm_m84 n 0 [some (.ref a0), some (.int x1)] [] h
set_option maxRecDepth 20000 in
set_option maxHeartbeats 4000000 in
theorem mm_e84_0 (E : mm_E) (cl : mm_F) (n : Nat) (a0 : Nat) (x1 : Int32) (h : mm_H) :
  mm_r84_0 E cl (n + 1) a0 x1 h =
  mm_gR h a0 6 0 fun p_1 =>
  mm_gI h p_1 7 5 fun v_2 =>
  (mm_br (v_2 = (mm_i 2)) (
  mm_gR h a0 6 0 fun p_3 =>
    mm_cI [] (cl 99 [.ref p_3] h) fun v_5 h_4 =>
    mm_cI [] (cl 137 [.int x1, .int v_5] h_4) fun v_7 h_6 =>
    (mm_br (v_7 = (mm_i 0)) (
    mm_cI [] (cl 91 [.ref a0, .int (mm_i 2)] h_6) fun v_18 h_17 =>
      (mm_bz v_18 (some (.inl (some (.int v_18)), h_17)))) (
    mm_gR h_6 a0 6 1 fun p_8 =>
      mm_gR h_6 a0 6 1 fun p_9 =>
      mm_gI h_6 p_9 3 10 fun v_10 =>
      mm_gR h_6 a0 6 0 fun p_11 =>
      mm_cI [] (cl 99 [.ref p_11] h_6) fun v_13 h_12 =>
      mm_cV [] (cl 31 [.ref p_8, .int (v_10 - (mm_i 1)), .int x1, .int v_13] h_12) fun h_14 =>
      mm_gR h_14 a0 6 0 fun p_15 =>
      mm_cV [] (cl 95 [.ref p_15] h_14) fun h_16 =>
      (mm_bz (mm_i 1) (some (.inl (some (.int (mm_i 1))), h_16)))))) (
  mm_cI [] (cl 91 [.ref a0, .int (mm_i 1)] h) fun v_20 h_19 =>
    (mm_bz v_20 (some (.inl (some (.int v_20)), h_19))))) := rfl
-- Tel.readZ
def mm_r85_0 (E : mm_E) (cl : mm_F) (n : Nat) (a0 : Nat) (h : mm_H) : mm_R := mm_run E cl mm_m85 n 0 [some (.ref a0)] [] h
set_option maxRecDepth 20000 in
set_option maxHeartbeats 4000000 in
theorem mm_e85_0 (E : mm_E) (cl : mm_F) (n : Nat) (a0 : Nat) (h : mm_H) :
  mm_r85_0 E cl (n + 1) a0 h =
  mm_gR h a0 6 0 fun p_1 =>
  mm_cV [] (cl 95 [.ref p_1] h) fun h_2 =>
  mm_gR h_2 a0 6 0 fun p_3 =>
  mm_gI h_2 p_3 7 5 fun v_4 =>
  (mm_br (v_4 = (mm_i 2)) (
  mm_gR h_2 a0 6 0 fun p_5 =>
    mm_cI [] (cl 99 [.ref p_5] h_2) fun v_7 h_6 =>
    (mm_br (v_7 ≤ (mm_i 400)) (
    mm_gR h_6 a0 6 1 fun p_8 =>
      mm_gR h_6 a0 6 0 fun p_9 =>
      mm_cI [] (cl 99 [.ref p_9] h_6) fun v_11 h_10 =>
      mm_pF h_10 p_8 3 11 (.int v_11) fun h_12 =>
      mm_gR h_12 a0 6 0 fun p_13 =>
      mm_cV [] (cl 95 [.ref p_13] h_12) fun h_14 =>
      (mm_bz (mm_i 1) (some (.inl (some (.int (mm_i 1))), h_14)))) (
    mm_cI [] (cl 91 [.ref a0, .int (mm_i 2)] h_6) fun v_16 h_15 =>
      (mm_bz v_16 (some (.inl (some (.int v_16)), h_15)))))) (
  mm_cI [] (cl 91 [.ref a0, .int (mm_i 1)] h_2) fun v_18 h_17 =>
    (mm_bz v_18 (some (.inl (some (.int v_18)), h_17))))) := rfl
-- Tel.readFrom
def mm_r86_0 (E : mm_E) (cl : mm_F) (n : Nat) (a0 : Nat) (h : mm_H) : mm_R := mm_run E cl mm_m86 n 0 [some (.ref a0), none, none] [] h
set_option maxRecDepth 20000 in
set_option maxHeartbeats 4000000 in
theorem mm_e86_0 (E : mm_E) (cl : mm_F) (n : Nat) (a0 : Nat) (h : mm_H) :
  mm_r86_0 E cl (n + 1) a0 h =
  mm_gR h a0 6 0 fun p_1 =>
  mm_cV [] (cl 95 [.ref p_1] h) fun h_2 =>
  mm_cI [] (cl 87 [.ref a0] h_2) fun v_4 h_3 =>
  (mm_br (v_4 = (mm_i 0)) (
  (mm_bz (mm_i 0) (some (.inl (some (.int (mm_i 0))), h_3)))) (
  mm_cI [] (cl 89 [.ref a0] h_3) fun v_6 h_5 =>
    mm_gR h_5 a0 6 0 fun p_7 =>
    mm_cV [] (cl 95 [.ref p_7] h_5) fun h_8 =>
    mm_cI [] (cl 87 [.ref a0] h_8) fun v_10 h_9 =>
    (mm_br (v_10 = (mm_i 0)) (
    (mm_bz (mm_i 0) (some (.inl (some (.int (mm_i 0))), h_9)))) (
    mm_cI [] (cl 89 [.ref a0] h_9) fun v_12 h_11 =>
      mm_gR h_11 a0 6 1 fun p_13 =>
      mm_cI [] (cl 40 [.ref p_13, .int v_6, .int v_12] h_11) fun v_15 h_14 =>
      (mm_br (v_15 = (mm_i 0)) (
      mm_gR h_14 a0 6 1 fun p_16 =>
        mm_cV [] (cl 38 [.ref p_16, .int v_6, .int v_12] h_14) fun h_17 =>
        mm_gR h_17 a0 6 0 fun p_18 =>
        mm_cV [] (cl 95 [.ref p_18] h_17) fun h_19 =>
        (mm_bz (mm_i 1) (some (.inl (some (.int (mm_i 1))), h_19)))) (
      mm_cI [] (cl 91 [.ref a0, .int (mm_i 4)] h_14) fun v_21 h_20 =>
        (mm_bz v_21 (some (.inl (some (.int v_21)), h_20))))))))) := rfl
-- Tel.isToldName
def mm_r87_0 (E : mm_E) (cl : mm_F) (n : Nat) (a0 : Nat) (h : mm_H) : mm_R := mm_run E cl mm_m87 n 0 [some (.ref a0)] [] h
set_option maxRecDepth 20000 in
set_option maxHeartbeats 4000000 in
theorem mm_e87_0 (E : mm_E) (cl : mm_F) (n : Nat) (a0 : Nat) (h : mm_H) :
  mm_r87_0 E cl (n + 1) a0 h =
  mm_cI [] (cl 88 [.ref a0] h) fun v_2 h_1 =>
  (mm_br (v_2 = (mm_i 0)) (
  mm_cI [] (cl 91 [.ref a0, .int (mm_i 1)] h_1) fun v_8 h_7 =>
    (mm_bz v_8 (some (.inl (some (.int v_8)), h_7)))) (
  mm_cI [] (cl 89 [.ref a0] h_1) fun v_4 h_3 =>
    (mm_br (v_4 = (mm_i (-1))) (
    mm_cI [] (cl 91 [.ref a0, .int (mm_i 3)] h_3) fun v_6 h_5 =>
      (mm_br (v_6 = (mm_i 0)) (
      (mm_bz (mm_i 0) (some (.inl (some (.int (mm_i 0))), h_5)))) (
      (mm_bz (mm_i 1) (some (.inl (some (.int (mm_i 1))), h_5)))))) (
    (mm_bz (mm_i 1) (some (.inl (some (.int (mm_i 1))), h_3))))))) := rfl
-- Tel.isName
def mm_r88_0 (E : mm_E) (cl : mm_F) (n : Nat) (a0 : Nat) (h : mm_H) : mm_R := mm_run E cl mm_m88 n 0 [some (.ref a0)] [] h
set_option maxRecDepth 20000 in
set_option maxHeartbeats 4000000 in
theorem mm_e88_0 (E : mm_E) (cl : mm_F) (n : Nat) (a0 : Nat) (h : mm_H) :
  mm_r88_0 E cl (n + 1) a0 h =
  mm_gR h a0 6 0 fun p_1 =>
  mm_gI h p_1 7 5 fun v_2 =>
  (mm_br (v_2 = (mm_i 1)) (
  mm_gR h a0 6 0 fun p_3 =>
    mm_gI h p_3 7 4 fun v_4 =>
    mm_gR h a0 6 0 fun p_5 =>
    mm_gI h p_5 7 3 fun v_6 =>
    (mm_br ((mm_i 6) < (v_4 - v_6)) (
    (mm_bz (mm_i 0) (some (.inl (some (.int (mm_i 0))), h)))) (
    mm_gR h a0 6 0 fun p_7 =>
      mm_cI [] (cl 98 [.ref p_7, .ref (E.2.2.1 2)] h) fun v_9 h_8 =>
      (mm_br (v_9 = (mm_i (-1))) (
      (mm_bz (mm_i 1) (some (.inl (some (.int (mm_i 1))), h_8)))) (
      (mm_bz (mm_i 0) (some (.inl (some (.int (mm_i 0))), h_8)))))))) (
  (mm_bz (mm_i 0) (some (.inl (some (.int (mm_i 0))), h))))) := rfl
-- Tel.findName
def mm_r89_0 (E : mm_E) (cl : mm_F) (n : Nat) (a0 : Nat) (h : mm_H) : mm_R := mm_run E cl mm_m89 n 0 [some (.ref a0), none, none, none] [] h
def mm_r89_2 (E : mm_E) (cl : mm_F) (n : Nat) (a0 : Nat) (x1 : Int32) (o2 : Option Value) (o3 : Option Value) (h : mm_H) : mm_R := mm_run E cl mm_m89 n 2 [some (.ref a0), some (.int x1), o2, o3] [] h
def mm_r89_17 (E : mm_E) (cl : mm_F) (n : Nat) (a0 : Nat) (x1 : Int32) (x2 : Int32) (x3 : Int32) (h : mm_H) : mm_R := mm_run E cl mm_m89 n 17 [some (.ref a0), some (.int x1), some (.int x2), some (.int x3)] [] h
set_option maxRecDepth 20000 in
set_option maxHeartbeats 4000000 in
theorem mm_e89_0 (E : mm_E) (cl : mm_F) (n : Nat) (a0 : Nat) (h : mm_H) :
  mm_r89_0 E cl (n + 1) a0 h =
  mm_r89_2 E cl n a0 (mm_i 0) none none h := rfl
set_option maxRecDepth 20000 in
set_option maxHeartbeats 4000000 in
theorem mm_e89_2 (E : mm_E) (cl : mm_F) (n : Nat) (a0 : Nat) (x1 : Int32) (o2 : Option Value) (o3 : Option Value) (h : mm_H) :
  mm_r89_2 E cl (n + 1) a0 x1 o2 o3 h =
  mm_gR h a0 6 1 fun p_1 =>
  mm_gI h p_1 3 10 fun v_2 =>
  (mm_br (v_2 ≤ x1) (
  some (.inl (some (.int (mm_i (-1)))), h)) (
  mm_r89_17 E cl n a0 x1 (mm_i 1) (mm_i 0) h)) := rfl
set_option maxRecDepth 20000 in
set_option maxHeartbeats 4000000 in
theorem mm_e89_17 (E : mm_E) (cl : mm_F) (n : Nat) (a0 : Nat) (x1 : Int32) (x2 : Int32) (x3 : Int32) (h : mm_H) :
  mm_r89_17 E cl (n + 1) a0 x1 x2 x3 h =
  (mm_br ((mm_i 6) ≤ x3) (
  (mm_br (x2 = (mm_i 0)) (
    mm_r89_2 E cl n a0 (x1 + (mm_i 1)) (some (.int x2)) (some (.int x3)) h) (
    some (.inl (some (.int x1)), h)))) (
  (mm_br (x2 = (mm_i 0)) (
    mm_r89_17 E cl n a0 x1 (mm_i 0) (x3 + (mm_i 1)) h) (
    mm_gR h a0 6 1 fun p_1 =>
      mm_gR h p_1 3 1 fun p_2 =>
      mm_rI E h p_2 ((x1 * (mm_i 6)) + x3) fun v_3 =>
      mm_gR h a0 6 0 fun p_4 =>
      mm_gI h p_4 7 3 fun v_5 =>
      mm_cI [] (cl 90 [.ref a0, .int (v_5 + x3)] h) fun v_7 h_6 =>
      (mm_br (v_3 = v_7) (
      mm_r89_17 E cl n a0 x1 (mm_i 1) (x3 + (mm_i 1)) h_6) (
      mm_r89_17 E cl n a0 x1 (mm_i 0) (x3 + (mm_i 1)) h_6)))))) := rfl
-- Tel.letterAt
def mm_r90_0 (E : mm_E) (cl : mm_F) (n : Nat) (a0 : Nat) (x1 : Int32) (h : mm_H) : mm_R := mm_run E cl mm_m90 n 0 [some (.ref a0), some (.int x1)] [] h
set_option maxRecDepth 20000 in
set_option maxHeartbeats 4000000 in
theorem mm_e90_0 (E : mm_E) (cl : mm_F) (n : Nat) (a0 : Nat) (x1 : Int32) (h : mm_H) :
  mm_r90_0 E cl (n + 1) a0 x1 h =
  mm_gR h a0 6 0 fun p_1 =>
  mm_gI h p_1 7 4 fun v_2 =>
  (mm_br (v_2 ≤ x1) (
  some (.inl (some (.int (mm_i 0))), h)) (
  mm_gR h a0 6 0 fun p_3 =>
    mm_gR h p_3 7 0 fun p_4 =>
    mm_rI E h p_4 x1 fun v_5 =>
    some (.inl (some (.int ((v_5 - (mm_i 97)) + (mm_i 1)))), h))) := rfl
-- Tel.refuse
def mm_r91_0 (E : mm_E) (cl : mm_F) (n : Nat) (a0 : Nat) (x1 : Int32) (h : mm_H) : mm_R := mm_run E cl mm_m91 n 0 [some (.ref a0), some (.int x1)] [] h
set_option maxRecDepth 20000 in
set_option maxHeartbeats 4000000 in
theorem mm_e91_0 (E : mm_E) (cl : mm_F) (n : Nat) (a0 : Nat) (x1 : Int32) (h : mm_H) :
  mm_r91_0 E cl (n + 1) a0 x1 h =
  mm_pF h a0 6 2 (.int x1) fun h_1 =>
  (mm_bz (mm_i 0) (some (.inl (some (.int (mm_i 0))), h_1))) := rfl
-- Tok.init
def mm_r92_0 (E : mm_E) (cl : mm_F) (n : Nat) (a0 : Nat) (h : mm_H) : mm_R := mm_run E cl mm_m92 n 0 [some (.ref a0)] [] h
set_option maxRecDepth 20000 in
set_option maxHeartbeats 4000000 in
theorem mm_e92_0 (E : mm_E) (cl : mm_F) (n : Nat) (a0 : Nat) (h : mm_H) :
  mm_r92_0 E cl (n + 1) a0 h =
  mm_nn (mm_i 400) fun k_3 => mm_al h (.inr (.inl (k_3, fun _ => 0))) k_3 fun p_1 h_2 =>
  mm_pF h_2 a0 7 0 (.ref p_1) fun h_4 =>
  mm_pF h_4 a0 7 1 (.int (mm_i 0)) fun h_5 =>
  mm_pF h_5 a0 7 2 (.int (mm_i 0)) fun h_6 =>
  mm_pF h_6 a0 7 3 (.int (mm_i 0)) fun h_7 =>
  mm_pF h_7 a0 7 4 (.int (mm_i 0)) fun h_8 =>
  mm_pF h_8 a0 7 5 (.int (mm_i 0)) fun h_9 =>
  some (.inl none, h_9) := rfl
-- Tok.put
def mm_r93_0 (E : mm_E) (cl : mm_F) (n : Nat) (a0 : Nat) (x1 : Int32) (h : mm_H) : mm_R := mm_run E cl mm_m93 n 0 [some (.ref a0), some (.int x1), none] [] h
def mm_r93_3 (E : mm_E) (cl : mm_F) (n : Nat) (a0 : Nat) (x1 : Int32) (x2 : Int32) (h : mm_H) : mm_R := mm_run E cl mm_m93 n 3 [some (.ref a0), some (.int x1), some (.int x2)] [] h
set_option maxRecDepth 20000 in
set_option maxHeartbeats 4000000 in
theorem mm_e93_0 (E : mm_E) (cl : mm_F) (n : Nat) (a0 : Nat) (x1 : Int32) (h : mm_H) :
  mm_r93_0 E cl (n + 1) a0 x1 h =
  mm_r93_3 E cl n a0 x1 (mm_i 24) h := rfl
set_option maxRecDepth 20000 in
set_option maxHeartbeats 4000000 in
theorem mm_e93_3 (E : mm_E) (cl : mm_F) (n : Nat) (a0 : Nat) (x1 : Int32) (x2 : Int32) (h : mm_H) :
  mm_r93_3 E cl (n + 1) a0 x1 x2 h =
  (mm_br (x2 < (mm_i 0)) (
  some (.inl none, h)) (
  mm_gI h a0 7 1 fun v_1 =>
    (mm_br ((mm_i 400) ≤ v_1) (
    some (.inl none, h)) (
    mm_gR h a0 7 0 fun p_2 =>
      mm_gI h a0 7 1 fun v_3 =>
      mm_wI h p_2 v_3 ((((x1).toUInt32 >>> ((x2 : Int32).toUInt32 &&& Int32.toUInt32 31)).toInt32) &&& (mm_i 255)) fun h_4 =>
      mm_gI h_4 a0 7 1 fun v_5 =>
      mm_pF h_4 a0 7 1 (.int (v_5 + (mm_i 1))) fun h_6 =>
      mm_r93_3 E cl n a0 x1 (x2 + (mm_i (-8))) h_6)))) := rfl
-- Tok.open
def mm_r94_0 (E : mm_E) (cl : mm_F) (n : Nat) (a0 : Nat) (x1 : Int32) (h : mm_H) : mm_R := mm_run E cl mm_m94 n 0 [some (.ref a0), some (.int x1)] [] h
set_option maxRecDepth 20000 in
set_option maxHeartbeats 4000000 in
theorem mm_e94_0 (E : mm_E) (cl : mm_F) (n : Nat) (a0 : Nat) (x1 : Int32) (h : mm_H) :
  mm_r94_0 E cl (n + 1) a0 x1 h =
  mm_pF h a0 7 2 (.int (mm_mn x1 (mm_i 400))) fun h_1 =>
  mm_pF h_1 a0 7 4 (.int (mm_i 0)) fun h_2 =>
  mm_cV [] (cl 95 [.ref a0] h_2) fun h_3 =>
  some (.inl none, h_3) := rfl
-- Tok.advance
def mm_r95_0 (E : mm_E) (cl : mm_F) (n : Nat) (a0 : Nat) (h : mm_H) : mm_R := mm_run E cl mm_m95 n 0 [some (.ref a0)] [] h
def mm_r95_8 (E : mm_E) (cl : mm_F) (n : Nat) (a0 : Nat) (h : mm_H) : mm_R := mm_run E cl mm_m95 n 8 [some (.ref a0)] [] h
def mm_r95_88 (E : mm_E) (cl : mm_F) (n : Nat) (a0 : Nat) (b0 : Nat) (s1 : Int32) (h : mm_H) : mm_R := mm_run E cl mm_m95 n 88 [some (.ref a0)] [.int s1, .ref b0] h
def mm_r95_124 (E : mm_E) (cl : mm_F) (n : Nat) (a0 : Nat) (h : mm_H) : mm_R := mm_run E cl mm_m95 n 124 [some (.ref a0)] [] h
set_option maxRecDepth 20000 in
set_option maxHeartbeats 4000000 in
theorem mm_e95_0 (E : mm_E) (cl : mm_F) (n : Nat) (a0 : Nat) (h : mm_H) :
  mm_r95_0 E cl (n + 1) a0 h =
  mm_gI h a0 7 4 fun v_1 =>
  mm_pF h a0 7 3 (.int v_1) fun h_2 =>
  mm_r95_8 E cl n a0 h_2 := rfl
set_option maxRecDepth 20000 in
set_option maxHeartbeats 4000000 in
theorem mm_e95_8 (E : mm_E) (cl : mm_F) (n : Nat) (a0 : Nat) (h : mm_H) :
  mm_r95_8 E cl (n + 1) a0 h =
  mm_gI h a0 7 3 fun v_1 =>
  mm_gI h a0 7 2 fun v_2 =>
  (mm_br (v_2 ≤ v_1) (
  mm_gI h a0 7 3 fun v_3 =>
    mm_gI h a0 7 2 fun v_4 =>
    (mm_br (v_4 ≤ v_3) (
    mm_r95_88 E cl n a0 a0 (mm_i 0) h) (
    mm_gR h a0 7 0 fun p_5 =>
      mm_gI h a0 7 3 fun v_6 =>
      mm_rI E h p_5 v_6 fun v_7 =>
      mm_cI [] (cl 100 [.int v_7] h) fun v_9 h_8 =>
      mm_r95_88 E cl n a0 a0 v_9 h_8))) (
  mm_gR h a0 7 0 fun p_10 =>
    mm_gI h a0 7 3 fun v_11 =>
    mm_rI E h p_10 v_11 fun v_12 =>
    (mm_br (v_12 = (mm_i 32)) (
    mm_gI h a0 7 3 fun v_13 =>
      mm_pF h a0 7 3 (.int (v_13 + (mm_i 1))) fun h_14 =>
      mm_r95_8 E cl n a0 h_14) (
    mm_gR h a0 7 0 fun p_15 =>
      mm_gI h a0 7 3 fun v_16 =>
      mm_rI E h p_15 v_16 fun v_17 =>
      (mm_br (v_17 = (mm_i 10)) (
      mm_gI h a0 7 3 fun v_25 =>
        mm_pF h a0 7 3 (.int (v_25 + (mm_i 1))) fun h_26 =>
        mm_r95_8 E cl n a0 h_26) (
      mm_gI h a0 7 3 fun v_18 =>
        mm_gI h a0 7 2 fun v_19 =>
        (mm_br (v_19 ≤ v_18) (
        mm_r95_88 E cl n a0 a0 (mm_i 0) h) (
        mm_gR h a0 7 0 fun p_20 =>
          mm_gI h a0 7 3 fun v_21 =>
          mm_rI E h p_20 v_21 fun v_22 =>
          mm_cI [] (cl 100 [.int v_22] h) fun v_24 h_23 =>
          mm_r95_88 E cl n a0 a0 v_24 h_23)))))))) := rfl
set_option maxRecDepth 20000 in
set_option maxHeartbeats 4000000 in
theorem mm_e95_88 (E : mm_E) (cl : mm_F) (n : Nat) (a0 : Nat) (b0 : Nat) (s1 : Int32) (h : mm_H) :
  mm_r95_88 E cl (n + 1) a0 b0 s1 h =
  mm_pF h b0 7 5 (.int s1) fun h_1 =>
  mm_gI h_1 a0 7 3 fun v_2 =>
  mm_gI h_1 a0 7 2 fun v_3 =>
  mm_pF h_1 a0 7 4 (.int (mm_mn (v_2 + (mm_i 1)) v_3)) fun h_4 =>
  mm_gI h_4 a0 7 5 fun v_5 =>
  (mm_br (v_5 = (mm_i 1)) (
  mm_r95_124 E cl n a0 h_4) (
  mm_gI h_4 a0 7 5 fun v_6 =>
    (mm_br (v_6 = (mm_i 2)) (
    mm_r95_124 E cl n a0 h_4) (
    some (.inl none, h_4))))) := rfl
set_option maxRecDepth 20000 in
set_option maxHeartbeats 4000000 in
theorem mm_e95_124 (E : mm_E) (cl : mm_F) (n : Nat) (a0 : Nat) (h : mm_H) :
  mm_r95_124 E cl (n + 1) a0 h =
  mm_gI h a0 7 4 fun v_1 =>
  mm_gI h a0 7 2 fun v_2 =>
  (mm_br (v_2 ≤ v_1) (
  some (.inl none, h)) (
  mm_gR h a0 7 0 fun p_3 =>
    mm_gI h a0 7 4 fun v_4 =>
    mm_rI E h p_3 v_4 fun v_5 =>
    mm_cI [] (cl 100 [.int v_5] h) fun v_7 h_6 =>
    mm_gI h_6 a0 7 5 fun v_8 =>
    (mm_br (v_7 = v_8) (
    mm_gI h_6 a0 7 4 fun v_9 =>
      mm_pF h_6 a0 7 4 (.int (v_9 + (mm_i 1))) fun h_10 =>
      mm_r95_124 E cl n a0 h_10) (
    some (.inl none, h_6))))) := rfl
-- Tok.isSign
def mm_r96_0 (E : mm_E) (cl : mm_F) (n : Nat) (a0 : Nat) (x1 : Int32) (h : mm_H) : mm_R := mm_run E cl mm_m96 n 0 [some (.ref a0), some (.int x1)] [] h
set_option maxRecDepth 20000 in
set_option maxHeartbeats 4000000 in
theorem mm_e96_0 (E : mm_E) (cl : mm_F) (n : Nat) (a0 : Nat) (x1 : Int32) (h : mm_H) :
  mm_r96_0 E cl (n + 1) a0 x1 h =
  mm_gI h a0 7 5 fun v_1 =>
  (mm_br (v_1 = (mm_i 3)) (
  mm_gR h a0 7 0 fun p_2 =>
    mm_gI h a0 7 3 fun v_3 =>
    mm_rI E h p_2 v_3 fun v_4 =>
    (mm_br (v_4 = x1) (
    (mm_bz (mm_i 1) (some (.inl (some (.int (mm_i 1))), h)))) (
    (mm_bz (mm_i 0) (some (.inl (some (.int (mm_i 0))), h)))))) (
  (mm_bz (mm_i 0) (some (.inl (some (.int (mm_i 0))), h))))) := rfl
-- Tok.skipWord
def mm_r97_0 (E : mm_E) (cl : mm_F) (n : Nat) (a0 : Nat) (a1 : Nat) (h : mm_H) : mm_R := mm_run E cl mm_m97 n 0 [some (.ref a0), some (.ref a1), none] [] h
set_option maxRecDepth 20000 in
set_option maxHeartbeats 4000000 in
theorem mm_e97_0 (E : mm_E) (cl : mm_F) (n : Nat) (a0 : Nat) (a1 : Nat) (h : mm_H) :
  mm_r97_0 E cl (n + 1) a0 a1 h =
  mm_cI [] (cl 98 [.ref a0, .ref a1] h) fun v_2 h_1 =>
  (mm_br (v_2 = (mm_i 0)) (
  (mm_br ((mm_i 1) = (mm_i 0)) (
    (mm_bz (mm_i 1) (some (.inl (some (.int (mm_i 1))), h_1)))) (
    mm_cV [] (cl 95 [.ref a0] h_1) fun h_4 =>
      (mm_bz (mm_i 1) (some (.inl (some (.int (mm_i 1))), h_4)))))) (
  (mm_br ((mm_i 0) = (mm_i 0)) (
    (mm_bz (mm_i 0) (some (.inl (some (.int (mm_i 0))), h_1)))) (
    mm_cV [] (cl 95 [.ref a0] h_1) fun h_3 =>
      (mm_bz (mm_i 0) (some (.inl (some (.int (mm_i 0))), h_3))))))) := rfl
-- Tok.among
def mm_r98_0 (E : mm_E) (cl : mm_F) (n : Nat) (a0 : Nat) (a1 : Nat) (h : mm_H) : mm_R := mm_run E cl mm_m98 n 0 [some (.ref a0), some (.ref a1), none, none, none, none] [] h
def mm_r98_23 (E : mm_E) (cl : mm_F) (n : Nat) (a0 : Nat) (a1 : Nat) (x2 : Int32) (x3 : Int32) (x4 : Int32) (x5 : Int32) (h : mm_H) : mm_R := mm_run E cl mm_m98 n 23 [some (.ref a0), some (.ref a1), some (.int x2), some (.int x3), some (.int x4), some (.int x5)] [] h
set_option maxRecDepth 20000 in
set_option maxHeartbeats 4000000 in
theorem mm_e98_0 (E : mm_E) (cl : mm_F) (n : Nat) (a0 : Nat) (a1 : Nat) (h : mm_H) :
  mm_r98_0 E cl (n + 1) a0 a1 h =
  mm_gI h a0 7 5 fun v_1 =>
  (mm_br (v_1 = (mm_i 1)) (
  mm_gI h a0 7 3 fun v_2 =>
    mm_r98_23 E cl n a0 a1 (mm_i 0) v_2 (mm_i 1) (mm_i 0) h) (
  some (.inl (some (.int (mm_i (-1)))), h))) := rfl
set_option maxRecDepth 20000 in
set_option maxHeartbeats 4000000 in
theorem mm_e98_23 (E : mm_E) (cl : mm_F) (n : Nat) (a0 : Nat) (a1 : Nat) (x2 : Int32) (x3 : Int32) (x4 : Int32) (x5 : Int32) (h : mm_H) :
  mm_r98_23 E cl (n + 1) a0 a1 x2 x3 x4 x5 h =
  mm_sl E a1 fun v_1 =>
  (mm_br (v_1 ≤ x5) (
  some (.inl (some (.int (mm_i (-1)))), h)) (
  mm_sa E a1 x5 fun v_2 =>
    (mm_br (v_2 = (mm_i 32)) (
    (mm_br (x4 = (mm_i 0)) (
      mm_gI h a0 7 3 fun v_3 =>
        mm_r98_23 E cl n a0 a1 (x2 + (mm_i 1)) v_3 (mm_i 1) (x5 + (mm_i 1)) h) (
      mm_gI h a0 7 4 fun v_4 =>
        (mm_br (x3 = v_4) (
        some (.inl (some (.int x2)), h)) (
        mm_gI h a0 7 3 fun v_5 =>
          mm_r98_23 E cl n a0 a1 (x2 + (mm_i 1)) v_5 (mm_i 1) (x5 + (mm_i 1)) h))))) (
    (mm_br (x4 = (mm_i 0)) (
      mm_r98_23 E cl n a0 a1 x2 (x3 + (mm_i 1)) (mm_i 0) (x5 + (mm_i 1)) h) (
      mm_gI h a0 7 4 fun v_6 =>
        (mm_br (v_6 ≤ x3) (
        mm_r98_23 E cl n a0 a1 x2 (x3 + (mm_i 1)) (mm_i 0) (x5 + (mm_i 1)) h) (
        mm_gR h a0 7 0 fun p_7 =>
          mm_rI E h p_7 x3 fun v_8 =>
          mm_sa E a1 x5 fun v_9 =>
          (mm_br (v_8 = v_9) (
          mm_r98_23 E cl n a0 a1 x2 (x3 + (mm_i 1)) (mm_i 1) (x5 + (mm_i 1)) h) (
          mm_r98_23 E cl n a0 a1 x2 (x3 + (mm_i 1)) (mm_i 0) (x5 + (mm_i 1)) h)))))))))) := rfl
-- Tok.number
def mm_r99_0 (E : mm_E) (cl : mm_F) (n : Nat) (a0 : Nat) (h : mm_H) : mm_R := mm_run E cl mm_m99 n 0 [some (.ref a0), none, none] [] h
def mm_r99_7 (E : mm_E) (cl : mm_F) (n : Nat) (a0 : Nat) (x1 : Int32) (x2 : Int32) (h : mm_H) : mm_R := mm_run E cl mm_m99 n 7 [some (.ref a0), some (.int x1), some (.int x2)] [] h
set_option maxRecDepth 20000 in
set_option maxHeartbeats 4000000 in
theorem mm_e99_0 (E : mm_E) (cl : mm_F) (n : Nat) (a0 : Nat) (h : mm_H) :
  mm_r99_0 E cl (n + 1) a0 h =
  mm_gI h a0 7 3 fun v_1 =>
  mm_r99_7 E cl n a0 (mm_i 0) v_1 h := rfl
set_option maxRecDepth 20000 in
set_option maxHeartbeats 4000000 in
theorem mm_e99_7 (E : mm_E) (cl : mm_F) (n : Nat) (a0 : Nat) (x1 : Int32) (x2 : Int32) (h : mm_H) :
  mm_r99_7 E cl (n + 1) a0 x1 x2 h =
  mm_gI h a0 7 4 fun v_1 =>
  (mm_br (v_1 ≤ x2) (
  some (.inl (some (.int x1)), h)) (
  mm_gR h a0 7 0 fun p_2 =>
    mm_rI E h p_2 x2 fun v_3 =>
    mm_r99_7 E cl n a0 (mm_mn (((x1 * (mm_i 10)) + v_3) - (mm_i 48)) (mm_i 1000000)) (x2 + (mm_i 1)) h)) := rfl
-- Tok.kindOf
def mm_r100_0 (E : mm_E) (cl : mm_F) (n : Nat) (x0 : Int32) (h : mm_H) : mm_R := mm_run E cl mm_m100 n 0 [some (.int x0)] [] h
set_option maxRecDepth 20000 in
set_option maxHeartbeats 4000000 in
theorem mm_e100_0 (E : mm_E) (cl : mm_F) (n : Nat) (x0 : Int32) (h : mm_H) :
  mm_r100_0 E cl (n + 1) x0 h =
  (mm_br (x0 < (mm_i 97)) (
  (mm_br (x0 < (mm_i 48)) (
    some (.inl (some (.int (mm_i 3))), h)) (
    (mm_br ((mm_i 57) < x0) (
      some (.inl (some (.int (mm_i 3))), h)) (
      some (.inl (some (.int (mm_i 2))), h)))))) (
  (mm_br ((mm_i 122) < x0) (
    (mm_br (x0 < (mm_i 48)) (
      some (.inl (some (.int (mm_i 3))), h)) (
      (mm_br ((mm_i 57) < x0) (
        some (.inl (some (.int (mm_i 3))), h)) (
        some (.inl (some (.int (mm_i 2))), h)))))) (
    some (.inl (some (.int (mm_i 1))), h))))) := rfl
-- PS.init
def mm_r101_0 (E : mm_E) (cl : mm_F) (n : Nat) (a0 : Nat) (h : mm_H) : mm_R := mm_run E cl mm_m101 n 0 [some (.ref a0)] [] h
set_option maxRecDepth 20000 in
set_option maxHeartbeats 4000000 in
theorem mm_e101_0 (E : mm_E) (cl : mm_F) (n : Nat) (a0 : Nat) (h : mm_H) :
  mm_r101_0 E cl (n + 1) a0 h =
  mm_al h (.inl (7, mm_new.getD 7 [])) (mm_new.getD 7 []).length fun p_1 h_2 =>
  mm_cV [] (cl 92 [.ref p_1] h_2) fun h_3 =>
  mm_pF h_3 a0 8 0 (.ref p_1) fun h_4 =>
  mm_al h_4 (.inl (3, mm_new.getD 3 [])) (mm_new.getD 3 []).length fun p_5 h_6 =>
  mm_cV [] (cl 29 [.ref p_5] h_6) fun h_7 =>
  mm_pF h_7 a0 8 1 (.ref p_5) fun h_8 =>
  mm_al h_8 (.inl (3, mm_new.getD 3 [])) (mm_new.getD 3 []).length fun p_9 h_10 =>
  mm_cV [] (cl 29 [.ref p_9] h_10) fun h_11 =>
  mm_pF h_11 a0 8 2 (.ref p_9) fun h_12 =>
  mm_al h_12 (.inl (3, mm_new.getD 3 [])) (mm_new.getD 3 []).length fun p_13 h_14 =>
  mm_cV [] (cl 29 [.ref p_13] h_14) fun h_15 =>
  mm_pF h_15 a0 8 3 (.ref p_13) fun h_16 =>
  mm_al h_16 (.inl (0, mm_new.getD 0 [])) (mm_new.getD 0 []).length fun p_17 h_18 =>
  mm_cV [] (cl 0 [.ref p_17] h_18) fun h_19 =>
  mm_pF h_19 a0 8 4 (.ref p_17) fun h_20 =>
  mm_al h_20 (.inl (1, mm_new.getD 1 [])) (mm_new.getD 1 []).length fun p_21 h_22 =>
  mm_cV [] (cl 4 [.ref p_21] h_22) fun h_23 =>
  mm_pF h_23 a0 8 5 (.ref p_21) fun h_24 =>
  mm_al h_24 (.inl (2, mm_new.getD 2 [])) (mm_new.getD 2 []).length fun p_25 h_26 =>
  mm_cV [] (cl 19 [.ref p_25] h_26) fun h_27 =>
  mm_pF h_27 a0 8 6 (.ref p_25) fun h_28 =>
  mm_al h_28 (.inl (6, mm_new.getD 6 [])) (mm_new.getD 6 []).length fun p_29 h_30 =>
  mm_gR h_30 a0 8 0 fun p_31 =>
  mm_gR h_30 a0 8 2 fun p_32 =>
  mm_cV [] (cl 78 [.ref p_29, .ref p_31, .ref p_32] h_30) fun h_33 =>
  mm_pF h_33 a0 8 7 (.ref p_29) fun h_34 =>
  mm_al h_34 (.inl (4, mm_new.getD 4 [])) (mm_new.getD 4 []).length fun p_35 h_36 =>
  mm_gR h_36 a0 8 0 fun p_37 =>
  mm_gR h_36 a0 8 1 fun p_38 =>
  mm_cV [] (cl 62 [.ref p_35, .ref p_37, .ref p_38] h_36) fun h_39 =>
  mm_pF h_39 a0 8 8 (.ref p_35) fun h_40 =>
  mm_nn (mm_i 21) fun k_43 => mm_al h_40 (.inr (.inl (k_43, fun _ => 0))) k_43 fun p_41 h_42 =>
  mm_pF h_42 a0 8 9 (.ref p_41) fun h_44 =>
  mm_pF h_44 a0 8 10 (.int (mm_i 0)) fun h_45 =>
  mm_pF h_45 a0 8 11 (.int (mm_i 0)) fun h_46 =>
  (mm_bz (mm_i 0) (
  mm_pF h_46 a0 8 12 (.int (mm_i 0)) fun h_47 =>
  mm_pF h_47 a0 8 13 (.int (mm_i (-1))) fun h_48 =>
  some (.inl none, h_48))) := rfl
-- PS.feed
def mm_r102_0 (E : mm_E) (cl : mm_F) (n : Nat) (a0 : Nat) (x1 : Int32) (x2 : Int32) (x3 : Int32) (x4 : Int32) (x5 : Int32) (h : mm_H) : mm_R := mm_run E cl mm_m102 n 0 [some (.ref a0), some (.int x1), some (.int x2), some (.int x3), some (.int x4), some (.int x5)] [] h
set_option maxRecDepth 20000 in
set_option maxHeartbeats 4000000 in
theorem mm_e102_0 (E : mm_E) (cl : mm_F) (n : Nat) (a0 : Nat) (x1 : Int32) (x2 : Int32) (x3 : Int32) (x4 : Int32) (x5 : Int32) (h : mm_H) :
  mm_r102_0 E cl (n + 1) a0 x1 x2 x3 x4 x5 h =
  mm_gR h a0 8 0 fun p_1 =>
  mm_gI h p_1 7 1 fun v_2 =>
  (mm_br ((v_2 + (mm_i 20)) ≤ (mm_i 400)) (
  mm_gR h a0 8 0 fun p_3 =>
    mm_cV [] (cl 93 [.ref p_3, .int x1] h) fun h_4 =>
    mm_gR h_4 a0 8 0 fun p_5 =>
    mm_cV [] (cl 93 [.ref p_5, .int x2] h_4) fun h_6 =>
    mm_gR h_6 a0 8 0 fun p_7 =>
    mm_cV [] (cl 93 [.ref p_7, .int x3] h_6) fun h_8 =>
    mm_gR h_8 a0 8 0 fun p_9 =>
    mm_cV [] (cl 93 [.ref p_9, .int x4] h_8) fun h_10 =>
    mm_gR h_10 a0 8 0 fun p_11 =>
    mm_cV [] (cl 93 [.ref p_11, .int x5] h_10) fun h_12 =>
    mm_gR h_12 a0 8 0 fun p_13 =>
    mm_gI h_12 p_13 7 1 fun v_14 =>
    some (.inl (some (.int v_14)), h_12)) (
  some (.inl (some (.int (mm_i (-1)))), h))) := rfl
-- PS.network
def mm_r103_0 (E : mm_E) (cl : mm_F) (n : Nat) (a0 : Nat) (x1 : Int32) (h : mm_H) : mm_R := mm_run E cl mm_m103 n 0 [some (.ref a0), some (.int x1), none] [] h
set_option maxRecDepth 20000 in
set_option maxHeartbeats 4000000 in
theorem mm_e103_0 (E : mm_E) (cl : mm_F) (n : Nat) (a0 : Nat) (x1 : Int32) (h : mm_H) :
  mm_r103_0 E cl (n + 1) a0 x1 h =
  (mm_br (x1 < (mm_i 0)) (
  some (.inr 1, (h.1, (none, (h.2.2.1 + 1, h.2.2.2 + 6))))) (
  mm_gR h a0 8 0 fun p_1 =>
    mm_gI h p_1 7 1 fun v_2 =>
    (mm_br (x1 ≤ v_2) (
    mm_gR h a0 8 7 fun p_3 =>
      mm_cI [] (cl 79 [.ref p_3, .int x1] h) fun v_5 h_4 =>
      mm_cV [] (cl 138 [.ref a0, .int v_5] h_4) fun h_6 =>
      (mm_br (v_5 = (mm_i 0)) (
      mm_gR h_6 a0 8 1 fun p_7 =>
        mm_gR h_6 a0 8 2 fun p_8 =>
        mm_cV [] (cl 34 [.ref p_7, .ref p_8] h_6) fun h_9 =>
        mm_gR h_9 a0 8 4 fun p_10 =>
        mm_cV [] (cl 3 [.ref p_10] h_9) fun h_11 =>
        mm_gR h_11 a0 8 1 fun p_12 =>
        mm_gI h_11 p_12 3 10 fun v_13 =>
        some (.inl (some (.int v_13)), h_11)) (
      some (.inl (some (.int ((mm_i (-10)) - v_5))), h_6)))) (
    some (.inr 1, (h.1, (none, (h.2.2.1 + 1, h.2.2.2 + 6)))))))) := rfl
-- PS.fault
def mm_r104_0 (E : mm_E) (cl : mm_F) (n : Nat) (a0 : Nat) (h : mm_H) : mm_R := mm_run E cl mm_m104 n 0 [some (.ref a0)] [] h
set_option maxRecDepth 20000 in
set_option maxHeartbeats 4000000 in
theorem mm_e104_0 (E : mm_E) (cl : mm_F) (n : Nat) (a0 : Nat) (h : mm_H) :
  mm_r104_0 E cl (n + 1) a0 h =
  mm_gI h a0 8 13 fun v_1 =>
  some (.inl (some (.int v_1)), h) := rfl
-- PS.count
def mm_r105_0 (E : mm_E) (cl : mm_F) (n : Nat) (a0 : Nat) (x1 : Int32) (h : mm_H) : mm_R := mm_run E cl mm_m105 n 0 [some (.ref a0), some (.int x1)] [] h
set_option maxRecDepth 20000 in
set_option maxHeartbeats 4000000 in
theorem mm_e105_0 (E : mm_E) (cl : mm_F) (n : Nat) (a0 : Nat) (x1 : Int32) (h : mm_H) :
  mm_r105_0 E cl (n + 1) a0 x1 h =
  (mm_br (x1 = (mm_i 0)) (
  mm_gR h a0 8 1 fun p_18 =>
    mm_gI h p_18 3 10 fun v_19 =>
    some (.inl (some (.int v_19)), h)) (
  (mm_br (x1 = (mm_i 1)) (
  mm_gR h a0 8 1 fun p_15 =>
    mm_cI [] (cl 41 [.ref p_15] h) fun v_17 h_16 =>
    some (.inl (some (.int v_17)), h_16)) (
  (mm_br (x1 = (mm_i 2)) (
  mm_gR h a0 8 1 fun p_13 =>
    mm_gI h p_13 3 11 fun v_14 =>
    some (.inl (some (.int v_14)), h)) (
  (mm_br (x1 = (mm_i 3)) (
  mm_gR h a0 8 1 fun p_8 =>
    mm_gI h p_8 3 10 fun v_9 =>
    mm_gR h a0 8 1 fun p_10 =>
    mm_cI [] (cl 41 [.ref p_10] h) fun v_12 h_11 =>
    some (.inl (some (.int (v_9 - v_12))), h_11)) (
  (mm_br (x1 = (mm_i 4)) (
  mm_gR h a0 8 1 fun p_5 =>
    mm_cI [] (cl 42 [.ref p_5] h) fun v_7 h_6 =>
    some (.inl (some (.int v_7)), h_6)) (
  (mm_br (x1 = (mm_i 5)) (
  mm_gR h a0 8 4 fun p_3 =>
    mm_gI h p_3 0 3 fun v_4 =>
    some (.inl (some (.int v_4)), h)) (
  (mm_br (x1 = (mm_i 6)) (
  mm_gR h a0 8 0 fun p_1 =>
    mm_gI h p_1 7 1 fun v_2 =>
    some (.inl (some (.int v_2)), h)) (
  some (.inr 0, (h.1, (none, (h.2.2.1 + 1, h.2.2.2 + 6)))))))))))))))))) := rfl
-- PS.letter
def mm_r106_0 (E : mm_E) (cl : mm_F) (n : Nat) (a0 : Nat) (x1 : Int32) (x2 : Int32) (h : mm_H) : mm_R := mm_run E cl mm_m106 n 0 [some (.ref a0), some (.int x1), some (.int x2)] [] h
set_option maxRecDepth 20000 in
set_option maxHeartbeats 4000000 in
theorem mm_e106_0 (E : mm_E) (cl : mm_F) (n : Nat) (a0 : Nat) (x1 : Int32) (x2 : Int32) (h : mm_H) :
  mm_r106_0 E cl (n + 1) a0 x1 x2 h =
  mm_cV [] (cl 133 [.ref a0, .int x1] h) fun h_1 =>
  (mm_br (x2 < (mm_i 0)) (
  some (.inr 0, (h_1.1, (none, (h_1.2.2.1 + 1, h_1.2.2.2 + 6))))) (
  (mm_br (x2 < (mm_i 6)) (
    mm_gR h_1 a0 8 1 fun p_2 =>
      mm_gR h_1 p_2 3 1 fun p_3 =>
      mm_rI E h_1 p_3 ((x1 * (mm_i 6)) + x2) fun v_4 =>
      some (.inl (some (.int v_4)), h_1)) (
    some (.inr 0, (h_1.1, (none, (h_1.2.2.1 + 1, h_1.2.2.2 + 6)))))))) := rfl
-- PS.stage
def mm_r107_0 (E : mm_E) (cl : mm_F) (n : Nat) (a0 : Nat) (x1 : Int32) (x2 : Int32) (h : mm_H) : mm_R := mm_run E cl mm_m107 n 0 [some (.ref a0), some (.int x1), some (.int x2)] [] h
set_option maxRecDepth 20000 in
set_option maxHeartbeats 4000000 in
theorem mm_e107_0 (E : mm_E) (cl : mm_F) (n : Nat) (a0 : Nat) (x1 : Int32) (x2 : Int32) (h : mm_H) :
  mm_r107_0 E cl (n + 1) a0 x1 x2 h =
  mm_cV [] (cl 133 [.ref a0, .int x1] h) fun h_1 =>
  mm_cV [] (cl 134 [.int x2, .int (mm_i 12)] h_1) fun h_2 =>
  (mm_br (x2 = (mm_i 7)) (
  mm_gR h_2 a0 8 1 fun p_18 =>
    mm_gR h_2 p_18 3 7 fun p_19 =>
    mm_rI E h_2 p_19 x1 fun v_20 =>
    some (.inl (some (.int v_20)), h_2)) (
  (mm_br (x2 = (mm_i 8)) (
  mm_gR h_2 a0 8 1 fun p_15 =>
    mm_gR h_2 p_15 3 8 fun p_16 =>
    mm_rI E h_2 p_16 x1 fun v_17 =>
    some (.inl (some (.int v_17)), h_2)) (
  (mm_br (x2 = (mm_i 9)) (
  mm_gR h_2 a0 8 1 fun p_12 =>
    mm_gR h_2 p_12 3 9 fun p_13 =>
    mm_rI E h_2 p_13 x1 fun v_14 =>
    some (.inl (some (.int v_14)), h_2)) (
  (mm_br (x2 = (mm_i 10)) (
  mm_gR h_2 a0 8 1 fun p_9 =>
    mm_gR h_2 p_9 3 2 fun p_10 =>
    mm_rI E h_2 p_10 x1 fun v_11 =>
    some (.inl (some (.int v_11)), h_2)) (
  (mm_br (x2 = (mm_i 11)) (
  mm_gR h_2 a0 8 1 fun p_6 =>
    mm_gR h_2 p_6 3 3 fun p_7 =>
    mm_rI E h_2 p_7 x1 fun v_8 =>
    some (.inl (some (.int v_8)), h_2)) (
  mm_gR h_2 a0 8 1 fun p_3 =>
  mm_cI [] (cl 30 [.ref p_3, .int x1, .int x2] h_2) fun v_5 h_4 =>
  some (.inl (some (.int v_5)), h_4))))))))))) := rfl
-- PS.bound
def mm_r108_0 (E : mm_E) (cl : mm_F) (n : Nat) (a0 : Nat) (x1 : Int32) (x2 : Int32) (x3 : Int32) (h : mm_H) : mm_R := mm_run E cl mm_m108 n 0 [some (.ref a0), some (.int x1), some (.int x2), some (.int x3)] [] h
set_option maxRecDepth 20000 in
set_option maxHeartbeats 4000000 in
theorem mm_e108_0 (E : mm_E) (cl : mm_F) (n : Nat) (a0 : Nat) (x1 : Int32) (x2 : Int32) (x3 : Int32) (h : mm_H) :
  mm_r108_0 E cl (n + 1) a0 x1 x2 x3 h =
  mm_cV [] (cl 133 [.ref a0, .int x1] h) fun h_1 =>
  mm_cV [] (cl 134 [.int x2, .int (mm_i 2)] h_1) fun h_2 =>
  (mm_br (x3 < (mm_i 0)) (
  some (.inr 1, (h_2.1, (none, (h_2.2.2.1 + 1, h_2.2.2.2 + 6))))) (
  (mm_br (x3 ≤ (mm_i 999)) (
    (mm_br (x2 = (mm_i 0)) (
      mm_gR h_2 a0 8 1 fun p_6 =>
        mm_cI [] (cl 47 [.ref p_6, .int x1, .int x3] h_2) fun v_8 h_7 =>
        some (.inl (some (.int v_8)), h_7)) (
      mm_gR h_2 a0 8 1 fun p_3 =>
        mm_cI [] (cl 49 [.ref p_3, .int x1, .int x3] h_2) fun v_5 h_4 =>
        some (.inl (some (.int v_5)), h_4)))) (
    some (.inr 1, (h_2.1, (none, (h_2.2.2.1 + 1, h_2.2.2.2 + 6)))))))) := rfl
-- PS.change
def mm_r109_0 (E : mm_E) (cl : mm_F) (n : Nat) (a0 : Nat) (x1 : Int32) (x2 : Int32) (x3 : Int32) (h : mm_H) : mm_R := mm_run E cl mm_m109 n 0 [some (.ref a0), some (.int x1), some (.int x2), some (.int x3)] [] h
set_option maxRecDepth 20000 in
set_option maxHeartbeats 4000000 in
theorem mm_e109_0 (E : mm_E) (cl : mm_F) (n : Nat) (a0 : Nat) (x1 : Int32) (x2 : Int32) (x3 : Int32) (h : mm_H) :
  mm_r109_0 E cl (n + 1) a0 x1 x2 x3 h =
  mm_cV [] (cl 134 [.int x2, .int (mm_i 7)] h) fun h_1 =>
  (mm_br (x2 = (mm_i 6)) (
  mm_cI [] (cl 139 [.ref a0, .int x3] h_1) fun v_6 h_5 =>
    some (.inl (some (.int v_6)), h_5)) (
  mm_cV [] (cl 133 [.ref a0, .int x1] h_1) fun h_2 =>
    mm_cI [] (cl 140 [.ref a0, .int x1, .int x2, .int x3] h_2) fun v_4 h_3 =>
    some (.inl (some (.int v_4)), h_3))) := rfl
-- PS.add
def mm_r110_0 (E : mm_E) (cl : mm_F) (n : Nat) (a0 : Nat) (x1 : Int32) (x2 : Int32) (x3 : Int32) (x4 : Int32) (h : mm_H) : mm_R := mm_run E cl mm_m110 n 0 [some (.ref a0), some (.int x1), some (.int x2), some (.int x3), some (.int x4), none] [] h
set_option maxRecDepth 20000 in
set_option maxHeartbeats 4000000 in
theorem mm_e110_0 (E : mm_E) (cl : mm_F) (n : Nat) (a0 : Nat) (x1 : Int32) (x2 : Int32) (x3 : Int32) (x4 : Int32) (h : mm_H) :
  mm_r110_0 E cl (n + 1) a0 x1 x2 x3 x4 h =
  mm_gR h a0 8 1 fun p_1 =>
  mm_gI h p_1 3 10 fun v_2 =>
  (mm_br ((mm_i 12) ≤ v_2) (
  some (.inl (some (.int (mm_i (-1)))), h)) (
  mm_cI [] (cl 132 [.ref a0, .int x1] h) fun v_4 h_3 =>
    (mm_br (v_4 = (mm_i 0)) (
    some (.inl (some (.int (mm_i (-1)))), h_3)) (
    mm_cI [] (cl 137 [.int (mm_i 0), .int x3] h_3) fun v_6 h_5 =>
      (mm_br (v_6 = (mm_i 0)) (
      some (.inl (some (.int (mm_i (-1)))), h_5)) (
      mm_cI [] (cl 137 [.int (mm_i 1), .int x4] h_5) fun v_8 h_7 =>
        (mm_br (v_8 = (mm_i 0)) (
        some (.inl (some (.int (mm_i (-1)))), h_7)) (
        mm_gR h_7 a0 8 1 fun p_9 =>
          mm_cI [] (cl 36 [.ref p_9] h_7) fun v_11 h_10 =>
          mm_gR h_10 a0 8 1 fun p_12 =>
          mm_cV [] (cl 31 [.ref p_12, .int v_11, .int (mm_i 0), .int x3] h_10) fun h_13 =>
          mm_gR h_13 a0 8 1 fun p_14 =>
          mm_cV [] (cl 31 [.ref p_14, .int v_11, .int (mm_i 1), .int x4] h_13) fun h_15 =>
          (mm_br (x2 = (mm_i 0)) (
          mm_gR h_15 a0 8 1 fun p_16 =>
            mm_cV [] (cl 38 [.ref p_16, .int x1, .int v_11] h_15) fun h_17 =>
            mm_gR h_17 a0 8 1 fun p_18 =>
            mm_cV [] (cl 43 [.ref p_18] h_17) fun h_19 =>
            mm_gR h_19 a0 8 4 fun p_20 =>
            mm_cV [] (cl 1 [.ref p_20, .int (mm_i 8), .int v_11, .int (mm_i 0)] h_19) fun h_21 =>
            some (.inl (some (.int v_11)), h_21)) (
          mm_gR h_15 a0 8 1 fun p_22 =>
            mm_cV [] (cl 38 [.ref p_22, .int v_11, .int x1] h_15) fun h_23 =>
            mm_gR h_23 a0 8 1 fun p_24 =>
            mm_cV [] (cl 43 [.ref p_24] h_23) fun h_25 =>
            mm_gR h_25 a0 8 4 fun p_26 =>
            mm_cV [] (cl 1 [.ref p_26, .int (mm_i 8), .int v_11, .int (mm_i 0)] h_25) fun h_27 =>
            some (.inl (some (.int v_11)), h_27))))))))))) := rfl
-- PS.supply
def mm_r111_0 (E : mm_E) (cl : mm_F) (n : Nat) (a0 : Nat) (x1 : Int32) (x2 : Int32) (h : mm_H) : mm_R := mm_run E cl mm_m111 n 0 [some (.ref a0), some (.int x1), some (.int x2)] [] h
set_option maxRecDepth 20000 in
set_option maxHeartbeats 4000000 in
theorem mm_e111_0 (E : mm_E) (cl : mm_F) (n : Nat) (a0 : Nat) (x1 : Int32) (x2 : Int32) (h : mm_H) :
  mm_r111_0 E cl (n + 1) a0 x1 x2 h =
  mm_cI [] (cl 132 [.ref a0, .int x1] h) fun v_2 h_1 =>
  (mm_br (v_2 = (mm_i 0)) (
  some (.inl (some (.int (mm_i (-1)))), h_1)) (
  mm_cI [] (cl 132 [.ref a0, .int x2] h_1) fun v_4 h_3 =>
    (mm_br (v_4 = (mm_i 0)) (
    some (.inl (some (.int (mm_i (-1)))), h_3)) (
    mm_gR h_3 a0 8 1 fun p_5 =>
      mm_cI [] (cl 40 [.ref p_5, .int x1, .int x2] h_3) fun v_7 h_6 =>
      (mm_br (v_7 = (mm_i 0)) (
      mm_gR h_6 a0 8 1 fun p_8 =>
        mm_cV [] (cl 38 [.ref p_8, .int x1, .int x2] h_6) fun h_9 =>
        mm_gR h_9 a0 8 1 fun p_10 =>
        mm_cV [] (cl 43 [.ref p_10] h_9) fun h_11 =>
        mm_gR h_11 a0 8 4 fun p_12 =>
        mm_cV [] (cl 1 [.ref p_12, .int (mm_i 9), .int x1, .int x2] h_11) fun h_13 =>
        mm_gR h_13 a0 8 1 fun p_14 =>
        mm_cI [] (cl 41 [.ref p_14] h_13) fun v_16 h_15 =>
        some (.inl (some (.int v_16)), h_15)) (
      some (.inl (some (.int (mm_i (-1)))), h_6))))))) := rfl
-- PS.pin
def mm_r112_0 (E : mm_E) (cl : mm_F) (n : Nat) (a0 : Nat) (x1 : Int32) (x2 : Int32) (h : mm_H) : mm_R := mm_run E cl mm_m112 n 0 [some (.ref a0), some (.int x1), some (.int x2)] [] h
set_option maxRecDepth 20000 in
set_option maxHeartbeats 4000000 in
theorem mm_e112_0 (E : mm_E) (cl : mm_F) (n : Nat) (a0 : Nat) (x1 : Int32) (x2 : Int32) (h : mm_H) :
  mm_r112_0 E cl (n + 1) a0 x1 x2 h =
  mm_cV [] (cl 133 [.ref a0, .int x1] h) fun h_1 =>
  mm_cI [] (cl 140 [.ref a0, .int x1, .int (mm_i 6), .int x2] h_1) fun v_3 h_2 =>
  some (.inl (some (.int v_3)), h_2) := rfl
-- PS.undo
def mm_r113_0 (E : mm_E) (cl : mm_F) (n : Nat) (a0 : Nat) (h : mm_H) : mm_R := mm_run E cl mm_m113 n 0 [some (.ref a0), none] [] h
set_option maxRecDepth 20000 in
set_option maxHeartbeats 4000000 in
theorem mm_e113_0 (E : mm_E) (cl : mm_F) (n : Nat) (a0 : Nat) (h : mm_H) :
  mm_r113_0 E cl (n + 1) a0 h =
  mm_gR h a0 8 4 fun p_1 =>
  mm_gI h p_1 0 3 fun v_2 =>
  (mm_br (v_2 = (mm_i 0)) (
  some (.inl (some (.int (mm_i (-1)))), h)) (
  mm_gR h a0 8 4 fun p_3 =>
    mm_cI [] (cl 2 [.ref p_3] h) fun v_5 h_4 =>
    mm_gR h_4 a0 8 4 fun p_6 =>
    mm_gR h_4 p_6 0 0 fun p_7 =>
    mm_rI E h_4 p_7 v_5 fun v_8 =>
    mm_gR h_4 a0 8 4 fun p_9 =>
    mm_gR h_4 p_9 0 1 fun p_10 =>
    mm_rI E h_4 p_10 v_5 fun v_11 =>
    mm_gR h_4 a0 8 4 fun p_12 =>
    mm_gR h_4 p_12 0 2 fun p_13 =>
    mm_rI E h_4 p_13 v_5 fun v_14 =>
    mm_cV [] (cl 141 [.ref a0, .int v_8, .int v_11, .int v_14] h_4) fun h_15 =>
    mm_gR h_15 a0 8 1 fun p_16 =>
    mm_cV [] (cl 43 [.ref p_16] h_15) fun h_17 =>
    mm_gR h_17 a0 8 4 fun p_18 =>
    mm_gI h_17 p_18 0 3 fun v_19 =>
    some (.inl (some (.int v_19)), h_17))) := rfl
-- PS.take
def mm_r114_0 (E : mm_E) (cl : mm_F) (n : Nat) (a0 : Nat) (x1 : Int32) (h : mm_H) : mm_R := mm_run E cl mm_m114 n 0 [some (.ref a0), some (.int x1)] [] h
def mm_r114_94 (E : mm_E) (cl : mm_F) (n : Nat) (a0 : Nat) (x1 : Int32) (h : mm_H) : mm_R := mm_run E cl mm_m114 n 94 [some (.ref a0), some (.int x1)] [] h
set_option maxRecDepth 20000 in
set_option maxHeartbeats 4000000 in
theorem mm_e114_0 (E : mm_E) (cl : mm_F) (n : Nat) (a0 : Nat) (x1 : Int32) (h : mm_H) :
  mm_r114_0 E cl (n + 1) a0 x1 h =
  (mm_br (x1 < (mm_i 0)) (
  some (.inl (some (.int (mm_i (-1)))), h)) (
  (mm_br (x1 ≤ (mm_i 3)) (
    (mm_br (x1 = (mm_i 2)) (
      mm_gR h a0 8 5 fun p_8 =>
        mm_gR h a0 8 1 fun p_9 =>
        mm_cI [] (cl 5 [.ref p_8, .ref p_9] h) fun v_11 h_10 =>
        (mm_br (v_11 = (mm_i (-1))) (
        some (.inl (some (.int (mm_i (-1)))), h_10)) (
        (mm_br (x1 = (mm_i 1)) (
          mm_gR h_10 a0 8 1 fun p_17 =>
            mm_cV [] (cl 57 [.ref p_17] h_10) fun h_18 =>
            mm_r114_94 E cl n a0 x1 h_18) (
          (mm_br (x1 = (mm_i 2)) (
          mm_cV [] (cl 142 [.ref a0] h_10) fun h_16 =>
            mm_r114_94 E cl n a0 x1 h_16) (
          (mm_br (x1 = (mm_i 3)) (
          mm_gR h_10 a0 8 1 fun p_14 =>
            mm_cV [] (cl 58 [.ref p_14] h_10) fun h_15 =>
            mm_r114_94 E cl n a0 x1 h_15) (
          mm_gR h_10 a0 8 1 fun p_12 =>
          mm_cV [] (cl 56 [.ref p_12] h_10) fun h_13 =>
          mm_r114_94 E cl n a0 x1 h_13))))))))) (
      (mm_br (x1 = (mm_i 1)) (
        mm_gR h a0 8 1 fun p_6 =>
          mm_cV [] (cl 57 [.ref p_6] h) fun h_7 =>
          mm_r114_94 E cl n a0 x1 h_7) (
        (mm_br (x1 = (mm_i 2)) (
        mm_cV [] (cl 142 [.ref a0] h) fun h_5 =>
          mm_r114_94 E cl n a0 x1 h_5) (
        (mm_br (x1 = (mm_i 3)) (
        mm_gR h a0 8 1 fun p_3 =>
          mm_cV [] (cl 58 [.ref p_3] h) fun h_4 =>
          mm_r114_94 E cl n a0 x1 h_4) (
        mm_gR h a0 8 1 fun p_1 =>
        mm_cV [] (cl 56 [.ref p_1] h) fun h_2 =>
        mm_r114_94 E cl n a0 x1 h_2))))))))) (
    some (.inl (some (.int (mm_i (-1)))), h))))) := rfl
set_option maxRecDepth 20000 in
set_option maxHeartbeats 4000000 in
theorem mm_e114_94 (E : mm_E) (cl : mm_F) (n : Nat) (a0 : Nat) (x1 : Int32) (h : mm_H) :
  mm_r114_94 E cl (n + 1) a0 x1 h =
  mm_gR h a0 8 1 fun p_1 =>
  mm_cI [] (cl 53 [.ref p_1] h) fun v_3 h_2 =>
  (mm_br (v_3 = (mm_i (-1))) (
  mm_gR h_2 a0 8 1 fun p_4 =>
    mm_cI [] (cl 54 [.ref p_4] h_2) fun v_6 h_5 =>
    some (.inl (some (.int v_6)), h_5)) (
  some (.inl (some (.int (mm_i (-2)))), h_2))) := rfl
-- PS.promise
def mm_r115_0 (E : mm_E) (cl : mm_F) (n : Nat) (a0 : Nat) (x1 : Int32) (x2 : Int32) (h : mm_H) : mm_R := mm_run E cl mm_m115 n 0 [some (.ref a0), some (.int x1), some (.int x2), none] [] h
set_option maxRecDepth 20000 in
set_option maxHeartbeats 4000000 in
theorem mm_e115_0 (E : mm_E) (cl : mm_F) (n : Nat) (a0 : Nat) (x1 : Int32) (x2 : Int32) (h : mm_H) :
  mm_r115_0 E cl (n + 1) a0 x1 x2 h =
  mm_cV [] (cl 133 [.ref a0, .int x1] h) fun h_1 =>
  mm_cV [] (cl 136 [.int x2] h_1) fun h_2 =>
  mm_gR h_2 a0 8 1 fun p_3 =>
  mm_gR h_2 p_3 3 4 fun p_4 =>
  mm_rI E h_2 p_4 x1 fun v_5 =>
  mm_gR h_2 a0 8 1 fun p_6 =>
  mm_gR h_2 p_6 3 4 fun p_7 =>
  mm_wI h_2 p_7 x1 x2 fun h_8 =>
  some (.inl (some (.int v_5)), h_8) := rfl
-- PS.planned
def mm_r116_0 (E : mm_E) (cl : mm_F) (n : Nat) (a0 : Nat) (x1 : Int32) (x2 : Int32) (h : mm_H) : mm_R := mm_run E cl mm_m116 n 0 [some (.ref a0), some (.int x1), some (.int x2)] [] h
set_option maxRecDepth 20000 in
set_option maxHeartbeats 4000000 in
theorem mm_e116_0 (E : mm_E) (cl : mm_F) (n : Nat) (a0 : Nat) (x1 : Int32) (x2 : Int32) (h : mm_H) :
  mm_r116_0 E cl (n + 1) a0 x1 x2 h =
  mm_cV [] (cl 133 [.ref a0, .int x1] h) fun h_1 =>
  mm_cV [] (cl 134 [.int x2, .int (mm_i 6)] h_1) fun h_2 =>
  mm_gR h_2 a0 8 1 fun p_3 =>
  mm_cI [] (cl 52 [.ref p_3, .int x1, .int x2] h_2) fun v_5 h_4 =>
  some (.inl (some (.int v_5)), h_4) := rfl
-- PS.plan
def mm_r117_0 (E : mm_E) (cl : mm_F) (n : Nat) (a0 : Nat) (x1 : Int32) (h : mm_H) : mm_R := mm_run E cl mm_m117 n 0 [some (.ref a0), some (.int x1)] [] h
set_option maxRecDepth 20000 in
set_option maxHeartbeats 4000000 in
theorem mm_e117_0 (E : mm_E) (cl : mm_F) (n : Nat) (a0 : Nat) (x1 : Int32) (h : mm_H) :
  mm_r117_0 E cl (n + 1) a0 x1 h =
  mm_cV [] (cl 134 [.int x1, .int (mm_i 3)] h) fun h_1 =>
  (mm_br (x1 = (mm_i 0)) (
  mm_gR h_1 a0 8 1 fun p_8 =>
    mm_cI [] (cl 53 [.ref p_8] h_1) fun v_10 h_9 =>
    (mm_br (v_10 = (mm_i (-1))) (
    mm_gR h_9 a0 8 1 fun p_11 =>
      mm_cI [] (cl 54 [.ref p_11] h_9) fun v_13 h_12 =>
      some (.inl (some (.int v_13)), h_12)) (
    some (.inl (some (.int (mm_i (-1)))), h_9)))) (
  (mm_br (x1 = (mm_i 1)) (
  mm_gR h_1 a0 8 1 fun p_5 =>
    mm_cI [] (cl 53 [.ref p_5] h_1) fun v_7 h_6 =>
    some (.inl (some (.int v_7)), h_6)) (
  mm_gR h_1 a0 8 1 fun p_2 =>
  mm_cI [] (cl 55 [.ref p_2] h_1) fun v_4 h_3 =>
  some (.inl (some (.int v_4)), h_3))))) := rfl
