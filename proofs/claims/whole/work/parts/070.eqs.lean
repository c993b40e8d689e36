/-! EQUATIONS of the runs, part 8 (by program: wip/whole/genpure.py) -/
-- Law.network
noncomputable def mm_r262_0 (E : mm_E) (cl : mm_F) (n : Nat) (a0 : Nat) (x1 : Int32) (a2 : Nat) (h : mm_H) : mm_R := mm_run E cl mm_m262 n 0 [some (.ref a0), some (.int x1), some (.ref a2), none] [] h
set_option maxRecDepth 20000 in
set_option maxHeartbeats 4000000 in
theorem mm_e262_0 (E : mm_E) (cl : mm_F) (n : Nat) (a0 : Nat) (x1 : Int32) (a2 : Nat) (h : mm_H) :
  mm_r262_0 E cl (n + 1) a0 x1 a2 h =
  mm_cI [(1, 1)] (cl 103 [.ref a0, .int x1] h) fun v_2 h_1 =>
  mm_wJ h_1 a2 (mm_i 0) (Int32.toInt64 v_2) fun h_3 =>
  some (.inl (some (.int (mm_i 0))), h_3) := rfl
-- Law.count
noncomputable def mm_r263_0 (E : mm_E) (cl : mm_F) (n : Nat) (a0 : Nat) (x1 : Int32) (a2 : Nat) (h : mm_H) : mm_R := mm_run E cl mm_m263 n 0 [some (.ref a0), some (.int x1), some (.ref a2), none] [] h
set_option maxRecDepth 20000 in
set_option maxHeartbeats 4000000 in
theorem mm_e263_0 (E : mm_E) (cl : mm_F) (n : Nat) (a0 : Nat) (x1 : Int32) (a2 : Nat) (h : mm_H) :
  mm_r263_0 E cl (n + 1) a0 x1 a2 h =
  mm_cI [(0, 1)] (cl 105 [.ref a0, .int x1] h) fun v_2 h_1 =>
  mm_wJ h_1 a2 (mm_i 0) (Int32.toInt64 v_2) fun h_3 =>
  some (.inl (some (.int (mm_i 0))), h_3) := rfl
-- Law.letter
noncomputable def mm_r264_0 (E : mm_E) (cl : mm_F) (n : Nat) (a0 : Nat) (x1 : Int32) (x2 : Int32) (a3 : Nat) (h : mm_H) : mm_R := mm_run E cl mm_m264 n 0 [some (.ref a0), some (.int x1), some (.int x2), some (.ref a3), none] [] h
set_option maxRecDepth 20000 in
set_option maxHeartbeats 4000000 in
theorem mm_e264_0 (E : mm_E) (cl : mm_F) (n : Nat) (a0 : Nat) (x1 : Int32) (x2 : Int32) (a3 : Nat) (h : mm_H) :
  mm_r264_0 E cl (n + 1) a0 x1 x2 a3 h =
  mm_cI [(0, 1)] (cl 106 [.ref a0, .int x1, .int x2] h) fun v_2 h_1 =>
  mm_wJ h_1 a3 (mm_i 0) (Int32.toInt64 v_2) fun h_3 =>
  some (.inl (some (.int (mm_i 0))), h_3) := rfl
-- Law.stage
noncomputable def mm_r265_0 (E : mm_E) (cl : mm_F) (n : Nat) (a0 : Nat) (x1 : Int32) (x2 : Int32) (a3 : Nat) (h : mm_H) : mm_R := mm_run E cl mm_m265 n 0 [some (.ref a0), some (.int x1), some (.int x2), some (.ref a3), none] [] h
set_option maxRecDepth 20000 in
set_option maxHeartbeats 4000000 in
theorem mm_e265_0 (E : mm_E) (cl : mm_F) (n : Nat) (a0 : Nat) (x1 : Int32) (x2 : Int32) (a3 : Nat) (h : mm_H) :
  mm_r265_0 E cl (n + 1) a0 x1 x2 a3 h =
  mm_cI [(0, 1)] (cl 107 [.ref a0, .int x1, .int x2] h) fun v_2 h_1 =>
  mm_wJ h_1 a3 (mm_i 0) (Int32.toInt64 v_2) fun h_3 =>
  some (.inl (some (.int (mm_i 0))), h_3) := rfl
-- Law.bound
noncomputable def mm_r266_0 (E : mm_E) (cl : mm_F) (n : Nat) (a0 : Nat) (x1 : Int32) (x2 : Int32) (x3 : Int32) (a4 : Nat) (h : mm_H) : mm_R := mm_run E cl mm_m266 n 0 [some (.ref a0), some (.int x1), some (.int x2), some (.int x3), some (.ref a4), none] [] h
set_option maxRecDepth 20000 in
set_option maxHeartbeats 4000000 in
theorem mm_e266_0 (E : mm_E) (cl : mm_F) (n : Nat) (a0 : Nat) (x1 : Int32) (x2 : Int32) (x3 : Int32) (a4 : Nat) (h : mm_H) :
  mm_r266_0 E cl (n + 1) a0 x1 x2 x3 a4 h =
  mm_cI [(0, 1), (1, 2)] (cl 108 [.ref a0, .int x1, .int x2, .int x3] h) fun v_2 h_1 =>
  mm_wJ h_1 a4 (mm_i 0) (Int32.toInt64 v_2) fun h_3 =>
  some (.inl (some (.int (mm_i 0))), h_3) := rfl
-- Law.change
noncomputable def mm_r267_0 (E : mm_E) (cl : mm_F) (n : Nat) (a0 : Nat) (x1 : Int32) (x2 : Int32) (x3 : Int32) (a4 : Nat) (h : mm_H) : mm_R := mm_run E cl mm_m267 n 0 [some (.ref a0), some (.int x1), some (.int x2), some (.int x3), some (.ref a4), none] [] h
set_option maxRecDepth 20000 in
set_option maxHeartbeats 4000000 in
theorem mm_e267_0 (E : mm_E) (cl : mm_F) (n : Nat) (a0 : Nat) (x1 : Int32) (x2 : Int32) (x3 : Int32) (a4 : Nat) (h : mm_H) :
  mm_r267_0 E cl (n + 1) a0 x1 x2 x3 a4 h =
  mm_cI [(0, 1), (1, 2)] (cl 109 [.ref a0, .int x1, .int x2, .int x3] h) fun v_2 h_1 =>
  mm_wJ h_1 a4 (mm_i 0) (Int32.toInt64 v_2) fun h_3 =>
  some (.inl (some (.int (mm_i 0))), h_3) := rfl
-- Law.pin
noncomputable def mm_r268_0 (E : mm_E) (cl : mm_F) (n : Nat) (a0 : Nat) (x1 : Int32) (x2 : Int32) (a3 : Nat) (h : mm_H) : mm_R := mm_run E cl mm_m268 n 0 [some (.ref a0), some (.int x1), some (.int x2), some (.ref a3), none] [] h
set_option maxRecDepth 20000 in
set_option maxHeartbeats 4000000 in
theorem mm_e268_0 (E : mm_E) (cl : mm_F) (n : Nat) (a0 : Nat) (x1 : Int32) (x2 : Int32) (a3 : Nat) (h : mm_H) :
  mm_r268_0 E cl (n + 1) a0 x1 x2 a3 h =
  mm_cI [(0, 1), (1, 2)] (cl 112 [.ref a0, .int x1, .int x2] h) fun v_2 h_1 =>
  mm_wJ h_1 a3 (mm_i 0) (Int32.toInt64 v_2) fun h_3 =>
  some (.inl (some (.int (mm_i 0))), h_3) := rfl
-- Law.promise
noncomputable def mm_r269_0 (E : mm_E) (cl : mm_F) (n : Nat) (a0 : Nat) (x1 : Int32) (x2 : Int32) (a3 : Nat) (h : mm_H) : mm_R := mm_run E cl mm_m269 n 0 [some (.ref a0), some (.int x1), some (.int x2), some (.ref a3), none] [] h
set_option maxRecDepth 20000 in
set_option maxHeartbeats 4000000 in
theorem mm_e269_0 (E : mm_E) (cl : mm_F) (n : Nat) (a0 : Nat) (x1 : Int32) (x2 : Int32) (a3 : Nat) (h : mm_H) :
  mm_r269_0 E cl (n + 1) a0 x1 x2 a3 h =
  mm_cI [(0, 1), (1, 2)] (cl 115 [.ref a0, .int x1, .int x2] h) fun v_2 h_1 =>
  mm_wJ h_1 a3 (mm_i 0) (Int32.toInt64 v_2) fun h_3 =>
  some (.inl (some (.int (mm_i 0))), h_3) := rfl
-- Law.planned
noncomputable def mm_r270_0 (E : mm_E) (cl : mm_F) (n : Nat) (a0 : Nat) (x1 : Int32) (x2 : Int32) (a3 : Nat) (h : mm_H) : mm_R := mm_run E cl mm_m270 n 0 [some (.ref a0), some (.int x1), some (.int x2), some (.ref a3), none] [] h
set_option maxRecDepth 20000 in
set_option maxHeartbeats 4000000 in
theorem mm_e270_0 (E : mm_E) (cl : mm_F) (n : Nat) (a0 : Nat) (x1 : Int32) (x2 : Int32) (a3 : Nat) (h : mm_H) :
  mm_r270_0 E cl (n + 1) a0 x1 x2 a3 h =
  mm_cI [(0, 1)] (cl 116 [.ref a0, .int x1, .int x2] h) fun v_2 h_1 =>
  mm_wJ h_1 a3 (mm_i 0) (Int32.toInt64 v_2) fun h_3 =>
  some (.inl (some (.int (mm_i 0))), h_3) := rfl
-- Law.plan
noncomputable def mm_r271_0 (E : mm_E) (cl : mm_F) (n : Nat) (a0 : Nat) (x1 : Int32) (a2 : Nat) (h : mm_H) : mm_R := mm_run E cl mm_m271 n 0 [some (.ref a0), some (.int x1), some (.ref a2), none] [] h
set_option maxRecDepth 20000 in
set_option maxHeartbeats 4000000 in
theorem mm_e271_0 (E : mm_E) (cl : mm_F) (n : Nat) (a0 : Nat) (x1 : Int32) (a2 : Nat) (h : mm_H) :
  mm_r271_0 E cl (n + 1) a0 x1 a2 h =
  mm_cI [(0, 1)] (cl 117 [.ref a0, .int x1] h) fun v_2 h_1 =>
  mm_wJ h_1 a2 (mm_i 0) (Int32.toInt64 v_2) fun h_3 =>
  some (.inl (some (.int (mm_i 0))), h_3) := rfl
-- Law.worth
noncomputable def mm_r272_0 (E : mm_E) (cl : mm_F) (n : Nat) (a0 : Nat) (x1 : Int32) (x2 : Int32) (a3 : Nat) (h : mm_H) : mm_R := mm_run E cl mm_m272 n 0 [some (.ref a0), some (.int x1), some (.int x2), some (.ref a3), none] [] h
set_option maxRecDepth 20000 in
set_option maxHeartbeats 4000000 in
theorem mm_e272_0 (E : mm_E) (cl : mm_F) (n : Nat) (a0 : Nat) (x1 : Int32) (x2 : Int32) (a3 : Nat) (h : mm_H) :
  mm_r272_0 E cl (n + 1) a0 x1 x2 a3 h =
  mm_cI [(0, 1)] (cl 119 [.ref a0, .int x1, .int x2] h) fun v_2 h_1 =>
  mm_wJ h_1 a3 (mm_i 0) (Int32.toInt64 v_2) fun h_3 =>
  some (.inl (some (.int (mm_i 0))), h_3) := rfl
-- Law.even
noncomputable def mm_r273_0 (E : mm_E) (cl : mm_F) (n : Nat) (a0 : Nat) (x1 : Int32) (a2 : Nat) (h : mm_H) : mm_R := mm_run E cl mm_m273 n 0 [some (.ref a0), some (.int x1), some (.ref a2), none] [] h
set_option maxRecDepth 20000 in
set_option maxHeartbeats 4000000 in
theorem mm_e273_0 (E : mm_E) (cl : mm_F) (n : Nat) (a0 : Nat) (x1 : Int32) (a2 : Nat) (h : mm_H) :
  mm_r273_0 E cl (n + 1) a0 x1 a2 h =
  mm_cI [(1, 1)] (cl 120 [.ref a0, .int x1] h) fun v_2 h_1 =>
  mm_wJ h_1 a2 (mm_i 0) (Int32.toInt64 v_2) fun h_3 =>
  some (.inl (some (.int (mm_i 0))), h_3) := rfl
-- Law.pinned
noncomputable def mm_r274_0 (E : mm_E) (cl : mm_F) (n : Nat) (a0 : Nat) (x1 : Int32) (x2 : Int32) (a3 : Nat) (h : mm_H) : mm_R := mm_run E cl mm_m274 n 0 [some (.ref a0), some (.int x1), some (.int x2), some (.ref a3), none] [] h
set_option maxRecDepth 20000 in
set_option maxHeartbeats 4000000 in
theorem mm_e274_0 (E : mm_E) (cl : mm_F) (n : Nat) (a0 : Nat) (x1 : Int32) (x2 : Int32) (a3 : Nat) (h : mm_H) :
  mm_r274_0 E cl (n + 1) a0 x1 x2 a3 h =
  mm_cI [(0, 1), (1, 2)] (cl 122 [.ref a0, .int x1, .int x2] h) fun v_2 h_1 =>
  mm_wJ h_1 a3 (mm_i 0) (Int32.toInt64 v_2) fun h_3 =>
  some (.inl (some (.int (mm_i 0))), h_3) := rfl
-- Law.demand
noncomputable def mm_r275_0 (E : mm_E) (cl : mm_F) (n : Nat) (a0 : Nat) (x1 : Int32) (x2 : Int32) (x3 : Int32) (a4 : Nat) (h : mm_H) : mm_R := mm_run E cl mm_m275 n 0 [some (.ref a0), some (.int x1), some (.int x2), some (.int x3), some (.ref a4), none] [] h
set_option maxRecDepth 20000 in
set_option maxHeartbeats 4000000 in
theorem mm_e275_0 (E : mm_E) (cl : mm_F) (n : Nat) (a0 : Nat) (x1 : Int32) (x2 : Int32) (x3 : Int32) (a4 : Nat) (h : mm_H) :
  mm_r275_0 E cl (n + 1) a0 x1 x2 x3 a4 h =
  mm_cI [(0, 1), (1, 2)] (cl 123 [.ref a0, .int x1, .int x2, .int x3] h) fun v_2 h_1 =>
  mm_wJ h_1 a4 (mm_i 0) (Int32.toInt64 v_2) fun h_3 =>
  some (.inl (some (.int (mm_i 0))), h_3) := rfl
-- Law.drawn
noncomputable def mm_r276_0 (E : mm_E) (cl : mm_F) (n : Nat) (a0 : Nat) (x1 : Int32) (x2 : Int32) (a3 : Nat) (h : mm_H) : mm_R := mm_run E cl mm_m276 n 0 [some (.ref a0), some (.int x1), some (.int x2), some (.ref a3), none] [] h
set_option maxRecDepth 20000 in
set_option maxHeartbeats 4000000 in
theorem mm_e276_0 (E : mm_E) (cl : mm_F) (n : Nat) (a0 : Nat) (x1 : Int32) (x2 : Int32) (a3 : Nat) (h : mm_H) :
  mm_r276_0 E cl (n + 1) a0 x1 x2 a3 h =
  mm_cI [(0, 1)] (cl 124 [.ref a0, .int x1, .int x2] h) fun v_2 h_1 =>
  mm_wJ h_1 a3 (mm_i 0) (Int32.toInt64 v_2) fun h_3 =>
  some (.inl (some (.int (mm_i 0))), h_3) := rfl
-- Law.day
noncomputable def mm_r277_0 (E : mm_E) (cl : mm_F) (n : Nat) (a0 : Nat) (x1 : Int32) (x2 : Int32) (x3 : Int32) (a4 : Nat) (h : mm_H) : mm_R := mm_run E cl mm_m277 n 0 [some (.ref a0), some (.int x1), some (.int x2), some (.int x3), some (.ref a4), none] [] h
set_option maxRecDepth 20000 in
set_option maxHeartbeats 4000000 in
theorem mm_e277_0 (E : mm_E) (cl : mm_F) (n : Nat) (a0 : Nat) (x1 : Int32) (x2 : Int32) (x3 : Int32) (a4 : Nat) (h : mm_H) :
  mm_r277_0 E cl (n + 1) a0 x1 x2 x3 a4 h =
  mm_cI [(0, 1)] (cl 125 [.ref a0, .int x1, .int x2, .int x3] h) fun v_2 h_1 =>
  mm_wJ h_1 a4 (mm_i 0) (Int32.toInt64 v_2) fun h_3 =>
  some (.inl (some (.int (mm_i 0))), h_3) := rfl
-- Law.days
noncomputable def mm_r278_0 (E : mm_E) (cl : mm_F) (n : Nat) (a0 : Nat) (x1 : Int32) (x2 : Int32) (a3 : Nat) (h : mm_H) : mm_R := mm_run E cl mm_m278 n 0 [some (.ref a0), some (.int x1), some (.int x2), some (.ref a3), none] [] h
set_option maxRecDepth 20000 in
set_option maxHeartbeats 4000000 in
theorem mm_e278_0 (E : mm_E) (cl : mm_F) (n : Nat) (a0 : Nat) (x1 : Int32) (x2 : Int32) (a3 : Nat) (h : mm_H) :
  mm_r278_0 E cl (n + 1) a0 x1 x2 a3 h =
  mm_cI [(0, 1)] (cl 126 [.ref a0, .int x1, .int x2] h) fun v_2 h_1 =>
  mm_wJ h_1 a3 (mm_i 0) (Int32.toInt64 v_2) fun h_3 =>
  some (.inl (some (.int (mm_i 0))), h_3) := rfl
-- Law.ask
noncomputable def mm_r279_0 (E : mm_E) (cl : mm_F) (n : Nat) (a0 : Nat) (x1 : Int32) (a2 : Nat) (h : mm_H) : mm_R := mm_run E cl mm_m279 n 0 [some (.ref a0), some (.int x1), some (.ref a2), none] [] h
set_option maxRecDepth 20000 in
set_option maxHeartbeats 4000000 in
theorem mm_e279_0 (E : mm_E) (cl : mm_F) (n : Nat) (a0 : Nat) (x1 : Int32) (a2 : Nat) (h : mm_H) :
  mm_r279_0 E cl (n + 1) a0 x1 a2 h =
  mm_cI [(1, 1)] (cl 127 [.ref a0, .int x1] h) fun v_2 h_1 =>
  mm_wJ h_1 a2 (mm_i 0) (Int32.toInt64 v_2) fun h_3 =>
  some (.inl (some (.int (mm_i 0))), h_3) := rfl
-- Law.chain
noncomputable def mm_r280_0 (E : mm_E) (cl : mm_F) (n : Nat) (a0 : Nat) (x1 : Int32) (x2 : Int32) (a3 : Nat) (h : mm_H) : mm_R := mm_run E cl mm_m280 n 0 [some (.ref a0), some (.int x1), some (.int x2), some (.ref a3), none] [] h
set_option maxRecDepth 20000 in
set_option maxHeartbeats 4000000 in
theorem mm_e280_0 (E : mm_E) (cl : mm_F) (n : Nat) (a0 : Nat) (x1 : Int32) (x2 : Int32) (a3 : Nat) (h : mm_H) :
  mm_r280_0 E cl (n + 1) a0 x1 x2 a3 h =
  mm_cI [(0, 1)] (cl 128 [.ref a0, .int x1, .int x2] h) fun v_2 h_1 =>
  mm_wJ h_1 a3 (mm_i 0) (Int32.toInt64 v_2) fun h_3 =>
  some (.inl (some (.int (mm_i 0))), h_3) := rfl
-- Law.frontier
noncomputable def mm_r281_0 (E : mm_E) (cl : mm_F) (n : Nat) (a0 : Nat) (x1 : Int32) (a2 : Nat) (h : mm_H) : mm_R := mm_run E cl mm_m281 n 0 [some (.ref a0), some (.int x1), some (.ref a2), none] [] h
set_option maxRecDepth 20000 in
set_option maxHeartbeats 4000000 in
theorem mm_e281_0 (E : mm_E) (cl : mm_F) (n : Nat) (a0 : Nat) (x1 : Int32) (a2 : Nat) (h : mm_H) :
  mm_r281_0 E cl (n + 1) a0 x1 a2 h =
  mm_cI [(0, 1)] (cl 129 [.ref a0, .int x1] h) fun v_2 h_1 =>
  mm_wJ h_1 a2 (mm_i 0) (Int32.toInt64 v_2) fun h_3 =>
  some (.inl (some (.int (mm_i 0))), h_3) := rfl
-- Law.law
noncomputable def mm_r282_0 (E : mm_E) (cl : mm_F) (n : Nat) (a0 : Nat) (h : mm_H) : mm_R := mm_run E cl mm_m282 n 0 [some (.ref a0), none, none, none, none, none, none] [] h
noncomputable def mm_r282_23 (E : mm_E) (cl : mm_F) (n : Nat) (a0 : Nat) (a1 : Nat) (a2 : Nat) (a3 : Nat) (x4 : Int32) (o5 : Option Value) (o6 : Option Value) (h : mm_H) : mm_R := mm_run E cl mm_m282 n 23 [some (.ref a0), some (.ref a1), some (.ref a2), some (.ref a3), some (.int x4), o5, o6] [] h
noncomputable def mm_r282_176 (E : mm_E) (cl : mm_F) (n : Nat) (a0 : Nat) (a1 : Nat) (a2 : Nat) (a3 : Nat) (x4 : Int32) (o5 : Option Value) (o6 : Option Value) (h : mm_H) : mm_R := mm_run E cl mm_m282 n 176 [some (.ref a0), some (.ref a1), some (.ref a2), some (.ref a3), some (.int x4), o5, o6] [] h
noncomputable def mm_r282_249 (E : mm_E) (cl : mm_F) (n : Nat) (a0 : Nat) (a1 : Nat) (a2 : Nat) (a3 : Nat) (x4 : Int32) (o5 : Option Value) (o6 : Option Value) (h : mm_H) : mm_R := mm_run E cl mm_m282 n 249 [some (.ref a0), some (.ref a1), some (.ref a2), some (.ref a3), some (.int x4), o5, o6] [] h
noncomputable def mm_r282_285 (E : mm_E) (cl : mm_F) (n : Nat) (a0 : Nat) (a1 : Nat) (a2 : Nat) (a3 : Nat) (x4 : Int32) (x5 : Int32) (x6 : Int32) (h : mm_H) : mm_R := mm_run E cl mm_m282 n 285 [some (.ref a0), some (.ref a1), some (.ref a2), some (.ref a3), some (.int x4), some (.int x5), some (.int x6)] [] h
noncomputable def mm_r282_305 (E : mm_E) (cl : mm_F) (n : Nat) (a0 : Nat) (a1 : Nat) (a2 : Nat) (a3 : Nat) (x4 : Int32) (o5 : Option Value) (o6 : Option Value) (h : mm_H) : mm_R := mm_run E cl mm_m282 n 305 [some (.ref a0), some (.ref a1), some (.ref a2), some (.ref a3), some (.int x4), o5, o6] [] h
noncomputable def mm_r282_318 (E : mm_E) (cl : mm_F) (n : Nat) (a0 : Nat) (a1 : Nat) (a2 : Nat) (a3 : Nat) (x4 : Int32) (o5 : Option Value) (o6 : Option Value) (h : mm_H) : mm_R := mm_run E cl mm_m282 n 318 [some (.ref a0), some (.ref a1), some (.ref a2), some (.ref a3), some (.int x4), o5, o6] [] h
noncomputable def mm_r282_354 (E : mm_E) (cl : mm_F) (n : Nat) (a0 : Nat) (a1 : Nat) (a2 : Nat) (a3 : Nat) (x4 : Int32) (x5 : Int32) (x6 : Int32) (h : mm_H) : mm_R := mm_run E cl mm_m282 n 354 [some (.ref a0), some (.ref a1), some (.ref a2), some (.ref a3), some (.int x4), some (.int x5), some (.int x6)] [] h
noncomputable def mm_r282_374 (E : mm_E) (cl : mm_F) (n : Nat) (a0 : Nat) (a1 : Nat) (a2 : Nat) (a3 : Nat) (x4 : Int32) (o5 : Option Value) (o6 : Option Value) (h : mm_H) : mm_R := mm_run E cl mm_m282 n 374 [some (.ref a0), some (.ref a1), some (.ref a2), some (.ref a3), some (.int x4), o5, o6] [] h
noncomputable def mm_r282_393 (E : mm_E) (cl : mm_F) (n : Nat) (a0 : Nat) (a1 : Nat) (a2 : Nat) (a3 : Nat) (x4 : Int32) (x5 : Int32) (o6 : Option Value) (h : mm_H) : mm_R := mm_run E cl mm_m282 n 393 [some (.ref a0), some (.ref a1), some (.ref a2), some (.ref a3), some (.int x4), some (.int x5), o6] [] h
noncomputable def mm_r282_427 (E : mm_E) (cl : mm_F) (n : Nat) (a0 : Nat) (a1 : Nat) (a2 : Nat) (a3 : Nat) (x4 : Int32) (x5 : Int32) (x6 : Int32) (h : mm_H) : mm_R := mm_run E cl mm_m282 n 427 [some (.ref a0), some (.ref a1), some (.ref a2), some (.ref a3), some (.int x4), some (.int x5), some (.int x6)] [] h
noncomputable def mm_r282_442 (E : mm_E) (cl : mm_F) (n : Nat) (a0 : Nat) (a1 : Nat) (a2 : Nat) (a3 : Nat) (x4 : Int32) (o5 : Option Value) (o6 : Option Value) (h : mm_H) : mm_R := mm_run E cl mm_m282 n 442 [some (.ref a0), some (.ref a1), some (.ref a2), some (.ref a3), some (.int x4), o5, o6] [] h
noncomputable def mm_r282_461 (E : mm_E) (cl : mm_F) (n : Nat) (a0 : Nat) (a1 : Nat) (a2 : Nat) (a3 : Nat) (x4 : Int32) (x5 : Int32) (o6 : Option Value) (h : mm_H) : mm_R := mm_run E cl mm_m282 n 461 [some (.ref a0), some (.ref a1), some (.ref a2), some (.ref a3), some (.int x4), some (.int x5), o6] [] h
noncomputable def mm_r282_495 (E : mm_E) (cl : mm_F) (n : Nat) (a0 : Nat) (a1 : Nat) (a2 : Nat) (a3 : Nat) (x4 : Int32) (x5 : Int32) (x6 : Int32) (h : mm_H) : mm_R := mm_run E cl mm_m282 n 495 [some (.ref a0), some (.ref a1), some (.ref a2), some (.ref a3), some (.int x4), some (.int x5), some (.int x6)] [] h
noncomputable def mm_r282_510 (E : mm_E) (cl : mm_F) (n : Nat) (a0 : Nat) (a1 : Nat) (a2 : Nat) (a3 : Nat) (x4 : Int32) (o5 : Option Value) (o6 : Option Value) (h : mm_H) : mm_R := mm_run E cl mm_m282 n 510 [some (.ref a0), some (.ref a1), some (.ref a2), some (.ref a3), some (.int x4), o5, o6] [] h
noncomputable def mm_r282_535 (E : mm_E) (cl : mm_F) (n : Nat) (a0 : Nat) (a1 : Nat) (a2 : Nat) (a3 : Nat) (x4 : Int32) (x5 : Int32) (o6 : Option Value) (h : mm_H) : mm_R := mm_run E cl mm_m282 n 535 [some (.ref a0), some (.ref a1), some (.ref a2), some (.ref a3), some (.int x4), some (.int x5), o6] [] h
noncomputable def mm_r282_559 (E : mm_E) (cl : mm_F) (n : Nat) (a0 : Nat) (a1 : Nat) (a2 : Nat) (a3 : Nat) (x4 : Int32) (x5 : Int32) (x6 : Int32) (h : mm_H) : mm_R := mm_run E cl mm_m282 n 559 [some (.ref a0), some (.ref a1), some (.ref a2), some (.ref a3), some (.int x4), some (.int x5), some (.int x6)] [] h
noncomputable def mm_r282_570 (E : mm_E) (cl : mm_F) (n : Nat) (a0 : Nat) (a1 : Nat) (a2 : Nat) (a3 : Nat) (x4 : Int32) (x5 : Int32) (x6 : Int32) (h : mm_H) : mm_R := mm_run E cl mm_m282 n 570 [some (.ref a0), some (.ref a1), some (.ref a2), some (.ref a3), some (.int x4), some (.int x5), some (.int x6)] [] h
noncomputable def mm_r282_590 (E : mm_E) (cl : mm_F) (n : Nat) (a0 : Nat) (a1 : Nat) (a2 : Nat) (a3 : Nat) (x4 : Int32) (o5 : Option Value) (o6 : Option Value) (h : mm_H) : mm_R := mm_run E cl mm_m282 n 590 [some (.ref a0), some (.ref a1), some (.ref a2), some (.ref a3), some (.int x4), o5, o6] [] h
noncomputable def mm_r282_615 (E : mm_E) (cl : mm_F) (n : Nat) (a0 : Nat) (a1 : Nat) (a2 : Nat) (a3 : Nat) (x4 : Int32) (x5 : Int32) (o6 : Option Value) (h : mm_H) : mm_R := mm_run E cl mm_m282 n 615 [some (.ref a0), some (.ref a1), some (.ref a2), some (.ref a3), some (.int x4), some (.int x5), o6] [] h
noncomputable def mm_r282_639 (E : mm_E) (cl : mm_F) (n : Nat) (a0 : Nat) (a1 : Nat) (a2 : Nat) (a3 : Nat) (x4 : Int32) (x5 : Int32) (x6 : Int32) (h : mm_H) : mm_R := mm_run E cl mm_m282 n 639 [some (.ref a0), some (.ref a1), some (.ref a2), some (.ref a3), some (.int x4), some (.int x5), some (.int x6)] [] h
noncomputable def mm_r282_650 (E : mm_E) (cl : mm_F) (n : Nat) (a0 : Nat) (a1 : Nat) (a2 : Nat) (a3 : Nat) (x4 : Int32) (x5 : Int32) (x6 : Int32) (h : mm_H) : mm_R := mm_run E cl mm_m282 n 650 [some (.ref a0), some (.ref a1), some (.ref a2), some (.ref a3), some (.int x4), some (.int x5), some (.int x6)] [] h
noncomputable def mm_r282_670 (E : mm_E) (cl : mm_F) (n : Nat) (a0 : Nat) (a1 : Nat) (a2 : Nat) (a3 : Nat) (x4 : Int32) (o5 : Option Value) (o6 : Option Value) (h : mm_H) : mm_R := mm_run E cl mm_m282 n 670 [some (.ref a0), some (.ref a1), some (.ref a2), some (.ref a3), some (.int x4), o5, o6] [] h
noncomputable def mm_r282_691 (E : mm_E) (cl : mm_F) (n : Nat) (a0 : Nat) (a1 : Nat) (a2 : Nat) (a3 : Nat) (x4 : Int32) (o5 : Option Value) (o6 : Option Value) (b0 : Nat) (s1 : Int32) (s2 : Int32) (h : mm_H) : mm_R := mm_run E cl mm_m282 n 691 [some (.ref a0), some (.ref a1), some (.ref a2), some (.ref a3), some (.int x4), o5, o6] [.int s2, .int s1, .ref b0] h
noncomputable def mm_r282_747 (E : mm_E) (cl : mm_F) (n : Nat) (a0 : Nat) (a1 : Nat) (a2 : Nat) (a3 : Nat) (x4 : Int32) (o5 : Option Value) (o6 : Option Value) (h : mm_H) : mm_R := mm_run E cl mm_m282 n 747 [some (.ref a0), some (.ref a1), some (.ref a2), some (.ref a3), some (.int x4), o5, o6] [] h
noncomputable def mm_r282_784 (E : mm_E) (cl : mm_F) (n : Nat) (a0 : Nat) (a1 : Nat) (a2 : Nat) (a3 : Nat) (x4 : Int32) (o5 : Option Value) (o6 : Option Value) (h : mm_H) : mm_R := mm_run E cl mm_m282 n 784 [some (.ref a0), some (.ref a1), some (.ref a2), some (.ref a3), some (.int x4), o5, o6] [] h
noncomputable def mm_r282_803 (E : mm_E) (cl : mm_F) (n : Nat) (a0 : Nat) (a1 : Nat) (a2 : Nat) (a3 : Nat) (x4 : Int32) (x5 : Int32) (o6 : Option Value) (h : mm_H) : mm_R := mm_run E cl mm_m282 n 803 [some (.ref a0), some (.ref a1), some (.ref a2), some (.ref a3), some (.int x4), some (.int x5), o6] [] h
noncomputable def mm_r282_837 (E : mm_E) (cl : mm_F) (n : Nat) (a0 : Nat) (a1 : Nat) (a2 : Nat) (a3 : Nat) (x4 : Int32) (x5 : Int32) (x6 : Int32) (h : mm_H) : mm_R := mm_run E cl mm_m282 n 837 [some (.ref a0), some (.ref a1), some (.ref a2), some (.ref a3), some (.int x4), some (.int x5), some (.int x6)] [] h
noncomputable def mm_r282_852 (E : mm_E) (cl : mm_F) (n : Nat) (a0 : Nat) (a1 : Nat) (a2 : Nat) (a3 : Nat) (x4 : Int32) (o5 : Option Value) (o6 : Option Value) (h : mm_H) : mm_R := mm_run E cl mm_m282 n 852 [some (.ref a0), some (.ref a1), some (.ref a2), some (.ref a3), some (.int x4), o5, o6] [] h
noncomputable def mm_r282_865 (E : mm_E) (cl : mm_F) (n : Nat) (a0 : Nat) (a1 : Nat) (a2 : Nat) (a3 : Nat) (x4 : Int32) (o5 : Option Value) (o6 : Option Value) (h : mm_H) : mm_R := mm_run E cl mm_m282 n 865 [some (.ref a0), some (.ref a1), some (.ref a2), some (.ref a3), some (.int x4), o5, o6] [] h
noncomputable def mm_r282_890 (E : mm_E) (cl : mm_F) (n : Nat) (a0 : Nat) (a1 : Nat) (a2 : Nat) (a3 : Nat) (x4 : Int32) (o5 : Option Value) (o6 : Option Value) (h : mm_H) : mm_R := mm_run E cl mm_m282 n 890 [some (.ref a0), some (.ref a1), some (.ref a2), some (.ref a3), some (.int x4), o5, o6] [] h
noncomputable def mm_r282_909 (E : mm_E) (cl : mm_F) (n : Nat) (a0 : Nat) (a1 : Nat) (a2 : Nat) (a3 : Nat) (x4 : Int32) (x5 : Int32) (o6 : Option Value) (h : mm_H) : mm_R := mm_run E cl mm_m282 n 909 [some (.ref a0), some (.ref a1), some (.ref a2), some (.ref a3), some (.int x4), some (.int x5), o6] [] h
noncomputable def mm_r282_943 (E : mm_E) (cl : mm_F) (n : Nat) (a0 : Nat) (a1 : Nat) (a2 : Nat) (a3 : Nat) (x4 : Int32) (x5 : Int32) (x6 : Int32) (h : mm_H) : mm_R := mm_run E cl mm_m282 n 943 [some (.ref a0), some (.ref a1), some (.ref a2), some (.ref a3), some (.int x4), some (.int x5), some (.int x6)] [] h
noncomputable def mm_r282_958 (E : mm_E) (cl : mm_F) (n : Nat) (a0 : Nat) (a1 : Nat) (a2 : Nat) (a3 : Nat) (x4 : Int32) (o5 : Option Value) (o6 : Option Value) (h : mm_H) : mm_R := mm_run E cl mm_m282 n 958 [some (.ref a0), some (.ref a1), some (.ref a2), some (.ref a3), some (.int x4), o5, o6] [] h
noncomputable def mm_r282_977 (E : mm_E) (cl : mm_F) (n : Nat) (a0 : Nat) (a1 : Nat) (a2 : Nat) (a3 : Nat) (x4 : Int32) (x5 : Int32) (o6 : Option Value) (h : mm_H) : mm_R := mm_run E cl mm_m282 n 977 [some (.ref a0), some (.ref a1), some (.ref a2), some (.ref a3), some (.int x4), some (.int x5), o6] [] h
noncomputable def mm_r282_1011 (E : mm_E) (cl : mm_F) (n : Nat) (a0 : Nat) (a1 : Nat) (a2 : Nat) (a3 : Nat) (x4 : Int32) (x5 : Int32) (x6 : Int32) (h : mm_H) : mm_R := mm_run E cl mm_m282 n 1011 [some (.ref a0), some (.ref a1), some (.ref a2), some (.ref a3), some (.int x4), some (.int x5), some (.int x6)] [] h
noncomputable def mm_r282_1026 (E : mm_E) (cl : mm_F) (n : Nat) (a0 : Nat) (a1 : Nat) (a2 : Nat) (a3 : Nat) (x4 : Int32) (o5 : Option Value) (o6 : Option Value) (h : mm_H) : mm_R := mm_run E cl mm_m282 n 1026 [some (.ref a0), some (.ref a1), some (.ref a2), some (.ref a3), some (.int x4), o5, o6] [] h
noncomputable def mm_r282_1062 (E : mm_E) (cl : mm_F) (n : Nat) (a0 : Nat) (a1 : Nat) (a2 : Nat) (a3 : Nat) (x4 : Int32) (x5 : Int32) (x6 : Int32) (h : mm_H) : mm_R := mm_run E cl mm_m282 n 1062 [some (.ref a0), some (.ref a1), some (.ref a2), some (.ref a3), some (.int x4), some (.int x5), some (.int x6)] [] h
noncomputable def mm_r282_1082 (E : mm_E) (cl : mm_F) (n : Nat) (a0 : Nat) (a1 : Nat) (a2 : Nat) (a3 : Nat) (x4 : Int32) (o5 : Option Value) (o6 : Option Value) (h : mm_H) : mm_R := mm_run E cl mm_m282 n 1082 [some (.ref a0), some (.ref a1), some (.ref a2), some (.ref a3), some (.int x4), o5, o6] [] h
noncomputable def mm_r282_1095 (E : mm_E) (cl : mm_F) (n : Nat) (a0 : Nat) (a1 : Nat) (a2 : Nat) (a3 : Nat) (x4 : Int32) (o5 : Option Value) (o6 : Option Value) (h : mm_H) : mm_R := mm_run E cl mm_m282 n 1095 [some (.ref a0), some (.ref a1), some (.ref a2), some (.ref a3), some (.int x4), o5, o6] [] h
noncomputable def mm_r282_1114 (E : mm_E) (cl : mm_F) (n : Nat) (a0 : Nat) (a1 : Nat) (a2 : Nat) (a3 : Nat) (x4 : Int32) (x5 : Int32) (o6 : Option Value) (h : mm_H) : mm_R := mm_run E cl mm_m282 n 1114 [some (.ref a0), some (.ref a1), some (.ref a2), some (.ref a3), some (.int x4), some (.int x5), o6] [] h
noncomputable def mm_r282_1148 (E : mm_E) (cl : mm_F) (n : Nat) (a0 : Nat) (a1 : Nat) (a2 : Nat) (a3 : Nat) (x4 : Int32) (x5 : Int32) (x6 : Int32) (h : mm_H) : mm_R := mm_run E cl mm_m282 n 1148 [some (.ref a0), some (.ref a1), some (.ref a2), some (.ref a3), some (.int x4), some (.int x5), some (.int x6)] [] h
noncomputable def mm_r282_1163 (E : mm_E) (cl : mm_F) (n : Nat) (a0 : Nat) (a1 : Nat) (a2 : Nat) (a3 : Nat) (x4 : Int32) (o5 : Option Value) (o6 : Option Value) (h : mm_H) : mm_R := mm_run E cl mm_m282 n 1163 [some (.ref a0), some (.ref a1), some (.ref a2), some (.ref a3), some (.int x4), o5, o6] [] h
noncomputable def mm_r282_1199 (E : mm_E) (cl : mm_F) (n : Nat) (a0 : Nat) (a1 : Nat) (a2 : Nat) (a3 : Nat) (x4 : Int32) (x5 : Int32) (x6 : Int32) (h : mm_H) : mm_R := mm_run E cl mm_m282 n 1199 [some (.ref a0), some (.ref a1), some (.ref a2), some (.ref a3), some (.int x4), some (.int x5), some (.int x6)] [] h
noncomputable def mm_r282_1219 (E : mm_E) (cl : mm_F) (n : Nat) (a0 : Nat) (a1 : Nat) (a2 : Nat) (a3 : Nat) (x4 : Int32) (o5 : Option Value) (o6 : Option Value) (h : mm_H) : mm_R := mm_run E cl mm_m282 n 1219 [some (.ref a0), some (.ref a1), some (.ref a2), some (.ref a3), some (.int x4), o5, o6] [] h
noncomputable def mm_r282_1244 (E : mm_E) (cl : mm_F) (n : Nat) (a0 : Nat) (a1 : Nat) (a2 : Nat) (a3 : Nat) (x4 : Int32) (o5 : Option Value) (o6 : Option Value) (h : mm_H) : mm_R := mm_run E cl mm_m282 n 1244 [some (.ref a0), some (.ref a1), some (.ref a2), some (.ref a3), some (.int x4), o5, o6] [] h
noncomputable def mm_r282_1263 (E : mm_E) (cl : mm_F) (n : Nat) (a0 : Nat) (a1 : Nat) (a2 : Nat) (a3 : Nat) (x4 : Int32) (x5 : Int32) (o6 : Option Value) (h : mm_H) : mm_R := mm_run E cl mm_m282 n 1263 [some (.ref a0), some (.ref a1), some (.ref a2), some (.ref a3), some (.int x4), some (.int x5), o6] [] h
noncomputable def mm_r282_1297 (E : mm_E) (cl : mm_F) (n : Nat) (a0 : Nat) (a1 : Nat) (a2 : Nat) (a3 : Nat) (x4 : Int32) (x5 : Int32) (x6 : Int32) (h : mm_H) : mm_R := mm_run E cl mm_m282 n 1297 [some (.ref a0), some (.ref a1), some (.ref a2), some (.ref a3), some (.int x4), some (.int x5), some (.int x6)] [] h
noncomputable def mm_r282_1312 (E : mm_E) (cl : mm_F) (n : Nat) (a0 : Nat) (a1 : Nat) (a2 : Nat) (a3 : Nat) (x4 : Int32) (o5 : Option Value) (o6 : Option Value) (h : mm_H) : mm_R := mm_run E cl mm_m282 n 1312 [some (.ref a0), some (.ref a1), some (.ref a2), some (.ref a3), some (.int x4), o5, o6] [] h
noncomputable def mm_r282_1337 (E : mm_E) (cl : mm_F) (n : Nat) (a0 : Nat) (a1 : Nat) (a2 : Nat) (a3 : Nat) (x4 : Int32) (x5 : Int32) (o6 : Option Value) (h : mm_H) : mm_R := mm_run E cl mm_m282 n 1337 [some (.ref a0), some (.ref a1), some (.ref a2), some (.ref a3), some (.int x4), some (.int x5), o6] [] h
noncomputable def mm_r282_1361 (E : mm_E) (cl : mm_F) (n : Nat) (a0 : Nat) (a1 : Nat) (a2 : Nat) (a3 : Nat) (x4 : Int32) (x5 : Int32) (x6 : Int32) (h : mm_H) : mm_R := mm_run E cl mm_m282 n 1361 [some (.ref a0), some (.ref a1), some (.ref a2), some (.ref a3), some (.int x4), some (.int x5), some (.int x6)] [] h
noncomputable def mm_r282_1372 (E : mm_E) (cl : mm_F) (n : Nat) (a0 : Nat) (a1 : Nat) (a2 : Nat) (a3 : Nat) (x4 : Int32) (x5 : Int32) (x6 : Int32) (h : mm_H) : mm_R := mm_run E cl mm_m282 n 1372 [some (.ref a0), some (.ref a1), some (.ref a2), some (.ref a3), some (.int x4), some (.int x5), some (.int x6)] [] h
noncomputable def mm_r282_1392 (E : mm_E) (cl : mm_F) (n : Nat) (a0 : Nat) (a1 : Nat) (a2 : Nat) (a3 : Nat) (x4 : Int32) (o5 : Option Value) (o6 : Option Value) (h : mm_H) : mm_R := mm_run E cl mm_m282 n 1392 [some (.ref a0), some (.ref a1), some (.ref a2), some (.ref a3), some (.int x4), o5, o6] [] h
noncomputable def mm_r282_1411 (E : mm_E) (cl : mm_F) (n : Nat) (a0 : Nat) (a1 : Nat) (a2 : Nat) (a3 : Nat) (x4 : Int32) (x5 : Int32) (o6 : Option Value) (h : mm_H) : mm_R := mm_run E cl mm_m282 n 1411 [some (.ref a0), some (.ref a1), some (.ref a2), some (.ref a3), some (.int x4), some (.int x5), o6] [] h
noncomputable def mm_r282_1445 (E : mm_E) (cl : mm_F) (n : Nat) (a0 : Nat) (a1 : Nat) (a2 : Nat) (a3 : Nat) (x4 : Int32) (x5 : Int32) (x6 : Int32) (h : mm_H) : mm_R := mm_run E cl mm_m282 n 1445 [some (.ref a0), some (.ref a1), some (.ref a2), some (.ref a3), some (.int x4), some (.int x5), some (.int x6)] [] h
noncomputable def mm_r282_1460 (E : mm_E) (cl : mm_F) (n : Nat) (a0 : Nat) (a1 : Nat) (a2 : Nat) (a3 : Nat) (x4 : Int32) (o5 : Option Value) (o6 : Option Value) (h : mm_H) : mm_R := mm_run E cl mm_m282 n 1460 [some (.ref a0), some (.ref a1), some (.ref a2), some (.ref a3), some (.int x4), o5, o6] [] h
noncomputable def mm_r282_1485 (E : mm_E) (cl : mm_F) (n : Nat) (a0 : Nat) (a1 : Nat) (a2 : Nat) (a3 : Nat) (x4 : Int32) (x5 : Int32) (o6 : Option Value) (h : mm_H) : mm_R := mm_run E cl mm_m282 n 1485 [some (.ref a0), some (.ref a1), some (.ref a2), some (.ref a3), some (.int x4), some (.int x5), o6] [] h
noncomputable def mm_r282_1509 (E : mm_E) (cl : mm_F) (n : Nat) (a0 : Nat) (a1 : Nat) (a2 : Nat) (a3 : Nat) (x4 : Int32) (x5 : Int32) (x6 : Int32) (h : mm_H) : mm_R := mm_run E cl mm_m282 n 1509 [some (.ref a0), some (.ref a1), some (.ref a2), some (.ref a3), some (.int x4), some (.int x5), some (.int x6)] [] h
noncomputable def mm_r282_1520 (E : mm_E) (cl : mm_F) (n : Nat) (a0 : Nat) (a1 : Nat) (a2 : Nat) (a3 : Nat) (x4 : Int32) (x5 : Int32) (x6 : Int32) (h : mm_H) : mm_R := mm_run E cl mm_m282 n 1520 [some (.ref a0), some (.ref a1), some (.ref a2), some (.ref a3), some (.int x4), some (.int x5), some (.int x6)] [] h
noncomputable def mm_r282_1540 (E : mm_E) (cl : mm_F) (n : Nat) (a0 : Nat) (a1 : Nat) (a2 : Nat) (a3 : Nat) (x4 : Int32) (o5 : Option Value) (o6 : Option Value) (h : mm_H) : mm_R := mm_run E cl mm_m282 n 1540 [some (.ref a0), some (.ref a1), some (.ref a2), some (.ref a3), some (.int x4), o5, o6] [] h
noncomputable def mm_r282_1559 (E : mm_E) (cl : mm_F) (n : Nat) (a0 : Nat) (a1 : Nat) (a2 : Nat) (a3 : Nat) (x4 : Int32) (x5 : Int32) (o6 : Option Value) (h : mm_H) : mm_R := mm_run E cl mm_m282 n 1559 [some (.ref a0), some (.ref a1), some (.ref a2), some (.ref a3), some (.int x4), some (.int x5), o6] [] h
noncomputable def mm_r282_1593 (E : mm_E) (cl : mm_F) (n : Nat) (a0 : Nat) (a1 : Nat) (a2 : Nat) (a3 : Nat) (x4 : Int32) (x5 : Int32) (x6 : Int32) (h : mm_H) : mm_R := mm_run E cl mm_m282 n 1593 [some (.ref a0), some (.ref a1), some (.ref a2), some (.ref a3), some (.int x4), some (.int x5), some (.int x6)] [] h
noncomputable def mm_r282_1608 (E : mm_E) (cl : mm_F) (n : Nat) (a0 : Nat) (a1 : Nat) (a2 : Nat) (a3 : Nat) (x4 : Int32) (o5 : Option Value) (o6 : Option Value) (h : mm_H) : mm_R := mm_run E cl mm_m282 n 1608 [some (.ref a0), some (.ref a1), some (.ref a2), some (.ref a3), some (.int x4), o5, o6] [] h
noncomputable def mm_r282_1644 (E : mm_E) (cl : mm_F) (n : Nat) (a0 : Nat) (a1 : Nat) (a2 : Nat) (a3 : Nat) (x4 : Int32) (x5 : Int32) (x6 : Int32) (h : mm_H) : mm_R := mm_run E cl mm_m282 n 1644 [some (.ref a0), some (.ref a1), some (.ref a2), some (.ref a3), some (.int x4), some (.int x5), some (.int x6)] [] h
noncomputable def mm_r282_1664 (E : mm_E) (cl : mm_F) (n : Nat) (a0 : Nat) (a1 : Nat) (a2 : Nat) (a3 : Nat) (x4 : Int32) (o5 : Option Value) (o6 : Option Value) (h : mm_H) : mm_R := mm_run E cl mm_m282 n 1664 [some (.ref a0), some (.ref a1), some (.ref a2), some (.ref a3), some (.int x4), o5, o6] [] h
noncomputable def mm_r282_1683 (E : mm_E) (cl : mm_F) (n : Nat) (a0 : Nat) (a1 : Nat) (a2 : Nat) (a3 : Nat) (x4 : Int32) (x5 : Int32) (o6 : Option Value) (h : mm_H) : mm_R := mm_run E cl mm_m282 n 1683 [some (.ref a0), some (.ref a1), some (.ref a2), some (.ref a3), some (.int x4), some (.int x5), o6] [] h
noncomputable def mm_r282_1717 (E : mm_E) (cl : mm_F) (n : Nat) (a0 : Nat) (a1 : Nat) (a2 : Nat) (a3 : Nat) (x4 : Int32) (x5 : Int32) (x6 : Int32) (h : mm_H) : mm_R := mm_run E cl mm_m282 n 1717 [some (.ref a0), some (.ref a1), some (.ref a2), some (.ref a3), some (.int x4), some (.int x5), some (.int x6)] [] h
noncomputable def mm_r282_1732 (E : mm_E) (cl : mm_F) (n : Nat) (a0 : Nat) (a1 : Nat) (a2 : Nat) (a3 : Nat) (x4 : Int32) (o5 : Option Value) (o6 : Option Value) (h : mm_H) : mm_R := mm_run E cl mm_m282 n 1732 [some (.ref a0), some (.ref a1), some (.ref a2), some (.ref a3), some (.int x4), o5, o6] [] h
noncomputable def mm_r282_1768 (E : mm_E) (cl : mm_F) (n : Nat) (a0 : Nat) (a1 : Nat) (a2 : Nat) (a3 : Nat) (x4 : Int32) (x5 : Int32) (x6 : Int32) (h : mm_H) : mm_R := mm_run E cl mm_m282 n 1768 [some (.ref a0), some (.ref a1), some (.ref a2), some (.ref a3), some (.int x4), some (.int x5), some (.int x6)] [] h
noncomputable def mm_r282_1788 (E : mm_E) (cl : mm_F) (n : Nat) (a0 : Nat) (a1 : Nat) (a2 : Nat) (a3 : Nat) (x4 : Int32) (o5 : Option Value) (o6 : Option Value) (h : mm_H) : mm_R := mm_run E cl mm_m282 n 1788 [some (.ref a0), some (.ref a1), some (.ref a2), some (.ref a3), some (.int x4), o5, o6] [] h
noncomputable def mm_r282_1799 (E : mm_E) (cl : mm_F) (n : Nat) (a0 : Nat) (a1 : Nat) (a2 : Nat) (a3 : Nat) (x4 : Int32) (o5 : Option Value) (o6 : Option Value) (h : mm_H) : mm_R := mm_run E cl mm_m282 n 1799 [some (.ref a0), some (.ref a1), some (.ref a2), some (.ref a3), some (.int x4), o5, o6] [] h
noncomputable def mm_r282_1812 (E : mm_E) (cl : mm_F) (n : Nat) (a0 : Nat) (a1 : Nat) (a2 : Nat) (a3 : Nat) (x4 : Int32) (o5 : Option Value) (o6 : Option Value) (h : mm_H) : mm_R := mm_run E cl mm_m282 n 1812 [some (.ref a0), some (.ref a1), some (.ref a2), some (.ref a3), some (.int x4), o5, o6] [] h
set_option maxRecDepth 20000 in
set_option maxHeartbeats 4000000 in
theorem mm_e282_0 (E : mm_E) (cl : mm_F) (n : Nat) (a0 : Nat) (h : mm_H) :
  mm_r282_0 E cl (n + 1) a0 h =
  mm_al h (.inl (8, mm_new.getD 8 [])) (mm_new.getD 8 []).length fun p_1 h_2 =>
  mm_cV [] (cl 101 [.ref p_1] h_2) fun h_3 =>
  mm_al h_3 (.inl (9, mm_new.getD 9 [])) (mm_new.getD 9 []).length fun p_4 h_5 =>
  mm_cV [] (cl 148 [.ref p_4] h_5) fun h_6 =>
  mm_nn (mm_i 1) fun k_9 => mm_al h_6 (.inr (.inr (.inl (k_9, fun _ => 0)))) k_9 fun p_7 h_8 =>
  mm_r282_23 E cl n a0 p_1 p_4 p_7 (mm_i 0) none none h_8 := rfl
set_option maxRecDepth 20000 in
set_option maxHeartbeats 4000000 in
theorem mm_e282_23 (E : mm_E) (cl : mm_F) (n : Nat) (a0 : Nat) (a1 : Nat) (a2 : Nat) (a3 : Nat) (x4 : Int32) (o5 : Option Value) (o6 : Option Value) (h : mm_H) :
  mm_r282_23 E cl (n + 1) a0 a1 a2 a3 x4 o5 o6 h =
  mm_ln E h a0 fun v_1 =>
  (mm_br ((v_1 - (mm_i 6)) < x4) (
  (mm_bz (mm_i 1) (some (.inl (some (.int (mm_i 1))), h)))) (
  mm_rI E h a0 x4 fun v_2 =>
    (mm_br ((v_2 &&& (mm_i 31)) = (mm_i 0)) (
    mm_r282_176 E cl n a0 a1 a2 a3 x4 o5 o6 h) (
    (mm_br ((v_2 &&& (mm_i 31)) = (mm_i 1)) (
    mm_r282_249 E cl n a0 a1 a2 a3 x4 o5 o6 h) (
    (mm_br ((v_2 &&& (mm_i 31)) = (mm_i 2)) (
    mm_r282_305 E cl n a0 a1 a2 a3 x4 o5 o6 h) (
    (mm_br ((v_2 &&& (mm_i 31)) = (mm_i 3)) (
    mm_r282_318 E cl n a0 a1 a2 a3 x4 o5 o6 h) (
    (mm_br ((v_2 &&& (mm_i 31)) = (mm_i 4)) (
    mm_r282_374 E cl n a0 a1 a2 a3 x4 o5 o6 h) (
    (mm_br ((v_2 &&& (mm_i 31)) = (mm_i 5)) (
    mm_r282_442 E cl n a0 a1 a2 a3 x4 o5 o6 h) (
    (mm_br ((v_2 &&& (mm_i 31)) = (mm_i 6)) (
    mm_r282_510 E cl n a0 a1 a2 a3 x4 o5 o6 h) (
    (mm_br ((v_2 &&& (mm_i 31)) = (mm_i 7)) (
    mm_r282_590 E cl n a0 a1 a2 a3 x4 o5 o6 h) (
    (mm_br ((v_2 &&& (mm_i 31)) = (mm_i 8)) (
    mm_r282_670 E cl n a0 a1 a2 a3 x4 o5 o6 h) (
    (mm_br ((v_2 &&& (mm_i 31)) = (mm_i 9)) (
    mm_r282_747 E cl n a0 a1 a2 a3 x4 o5 o6 h) (
    (mm_br ((v_2 &&& (mm_i 31)) = (mm_i 10)) (
    mm_r282_784 E cl n a0 a1 a2 a3 x4 o5 o6 h) (
    (mm_br ((v_2 &&& (mm_i 31)) = (mm_i 11)) (
    mm_r282_852 E cl n a0 a1 a2 a3 x4 o5 o6 h) (
    (mm_br ((v_2 &&& (mm_i 31)) = (mm_i 12)) (
    mm_r282_865 E cl n a0 a1 a2 a3 x4 o5 o6 h) (
    (mm_br ((v_2 &&& (mm_i 31)) = (mm_i 13)) (
    mm_r282_890 E cl n a0 a1 a2 a3 x4 o5 o6 h) (
    (mm_br ((v_2 &&& (mm_i 31)) = (mm_i 14)) (
    mm_r282_958 E cl n a0 a1 a2 a3 x4 o5 o6 h) (
    (mm_br ((v_2 &&& (mm_i 31)) = (mm_i 15)) (
    mm_r282_1026 E cl n a0 a1 a2 a3 x4 o5 o6 h) (
    (mm_br ((v_2 &&& (mm_i 31)) = (mm_i 16)) (
    mm_r282_1082 E cl n a0 a1 a2 a3 x4 o5 o6 h) (
    (mm_br ((v_2 &&& (mm_i 31)) = (mm_i 17)) (
    mm_r282_1095 E cl n a0 a1 a2 a3 x4 o5 o6 h) (
    (mm_br ((v_2 &&& (mm_i 31)) = (mm_i 18)) (
    mm_r282_1163 E cl n a0 a1 a2 a3 x4 o5 o6 h) (
    (mm_br ((v_2 &&& (mm_i 31)) = (mm_i 19)) (
    mm_r282_1219 E cl n a0 a1 a2 a3 x4 o5 o6 h) (
    (mm_br ((v_2 &&& (mm_i 31)) = (mm_i 20)) (
    mm_r282_1244 E cl n a0 a1 a2 a3 x4 o5 o6 h) (
    (mm_br ((v_2 &&& (mm_i 31)) = (mm_i 21)) (
    mm_r282_1312 E cl n a0 a1 a2 a3 x4 o5 o6 h) (
    (mm_br ((v_2 &&& (mm_i 31)) = (mm_i 22)) (
    mm_r282_1392 E cl n a0 a1 a2 a3 x4 o5 o6 h) (
    (mm_br ((v_2 &&& (mm_i 31)) = (mm_i 23)) (
    mm_r282_1460 E cl n a0 a1 a2 a3 x4 o5 o6 h) (
    (mm_br ((v_2 &&& (mm_i 31)) = (mm_i 24)) (
    mm_r282_1540 E cl n a0 a1 a2 a3 x4 o5 o6 h) (
    (mm_br ((v_2 &&& (mm_i 31)) = (mm_i 25)) (
    mm_r282_1608 E cl n a0 a1 a2 a3 x4 o5 o6 h) (
    (mm_br ((v_2 &&& (mm_i 31)) = (mm_i 26)) (
    mm_r282_1664 E cl n a0 a1 a2 a3 x4 o5 o6 h) (
    (mm_br ((v_2 &&& (mm_i 31)) = (mm_i 27)) (
    mm_r282_1732 E cl n a0 a1 a2 a3 x4 o5 o6 h) (
    (mm_br ((v_2 &&& (mm_i 31)) = (mm_i 28)) (
    mm_r282_1788 E cl n a0 a1 a2 a3 x4 o5 o6 h) (
    (mm_br ((v_2 &&& (mm_i 31)) = (mm_i 29)) (
    mm_r282_1799 E cl n a0 a1 a2 a3 x4 o5 o6 h) (
    mm_r282_1812 E cl n a0 a1 a2 a3 x4 o5 o6 h)))))))))))))))))))))))))))))))))))))))))))))))))))))))))))))) := rfl
set_option maxRecDepth 20000 in
set_option maxHeartbeats 4000000 in
theorem mm_e282_176 (E : mm_E) (cl : mm_F) (n : Nat) (a0 : Nat) (a1 : Nat) (a2 : Nat) (a3 : Nat) (x4 : Int32) (o5 : Option Value) (o6 : Option Value) (h : mm_H) :
  mm_r282_176 E cl (n + 1) a0 a1 a2 a3 x4 o5 o6 h =
  mm_rI E h a0 (x4 + (mm_i 1)) fun v_1 =>
  mm_rI E h a0 (x4 + (mm_i 2)) fun v_2 =>
  mm_rI E h a0 (x4 + (mm_i 3)) fun v_3 =>
  mm_rI E h a0 (x4 + (mm_i 4)) fun v_4 =>
  mm_rI E h a0 (x4 + (mm_i 5)) fun v_5 =>
  mm_cI [] (cl 102 [.ref a1, .int v_1, .int v_2, .int v_3, .int v_4, .int v_5] h) fun v_7 h_6 =>
  mm_rI E h_6 a0 (x4 + (mm_i 1)) fun v_8 =>
  mm_rI E h_6 a0 (x4 + (mm_i 2)) fun v_9 =>
  mm_rI E h_6 a0 (x4 + (mm_i 3)) fun v_10 =>
  mm_rI E h_6 a0 (x4 + (mm_i 4)) fun v_11 =>
  mm_rI E h_6 a0 (x4 + (mm_i 5)) fun v_12 =>
  mm_cI [] (cl 228 [.ref a2, .int v_8, .int v_9, .int v_10, .int v_11, .int v_12] h_6) fun v_14 h_13 =>
  (mm_br (v_7 = v_14) (
  mm_r282_1812 E cl n a0 a1 a2 a3 x4 o5 o6 h_13) (
  (mm_bz (mm_i 0) (some (.inl (some (.int (mm_i 0))), h_13))))) := rfl
set_option maxRecDepth 20000 in
set_option maxHeartbeats 4000000 in
theorem mm_e282_249 (E : mm_E) (cl : mm_F) (n : Nat) (a0 : Nat) (a1 : Nat) (a2 : Nat) (a3 : Nat) (x4 : Int32) (o5 : Option Value) (o6 : Option Value) (h : mm_H) :
  mm_r282_249 E cl (n + 1) a0 a1 a2 a3 x4 o5 o6 h =
  mm_rI E h a0 (x4 + (mm_i 1)) fun v_1 =>
  mm_cI [] (cl 262 [.ref a1, .int v_1, .ref a3] h) fun v_3 h_2 =>
  mm_rI E h_2 a0 (x4 + (mm_i 1)) fun v_4 =>
  mm_cI [] (cl 248 [.ref a2, .int v_4] h_2) fun v_6 h_5 =>
  mm_cI [] (cl 145 [.ref a2] h_5) fun v_8 h_7 =>
  (mm_br (v_8 = v_3) (
  mm_r282_285 E cl n a0 a1 a2 a3 x4 v_3 v_6 h_7) (
  (mm_bz (mm_i 0) (some (.inl (some (.int (mm_i 0))), h_7))))) := rfl
set_option maxRecDepth 20000 in
set_option maxHeartbeats 4000000 in
theorem mm_e282_285 (E : mm_E) (cl : mm_F) (n : Nat) (a0 : Nat) (a1 : Nat) (a2 : Nat) (a3 : Nat) (x4 : Int32) (x5 : Int32) (x6 : Int32) (h : mm_H) :
  mm_r282_285 E cl (n + 1) a0 a1 a2 a3 x4 x5 x6 h =
  (mm_br (x5 = (mm_i 0)) (
  mm_rJ h a3 (mm_i 0) fun w_1 =>
    (mm_br ((lg_cmp w_1 (Int32.toInt64 x6)) = (mm_i 0)) (
    mm_r282_1812 E cl n a0 a1 a2 a3 x4 (some (.int x5)) (some (.int x6)) h) (
    (mm_bz (mm_i 0) (some (.inl (some (.int (mm_i 0))), h)))))) (
  mm_r282_1812 E cl n a0 a1 a2 a3 x4 (some (.int x5)) (some (.int x6)) h)) := rfl
set_option maxRecDepth 20000 in
set_option maxHeartbeats 4000000 in
theorem mm_e282_305 (E : mm_E) (cl : mm_F) (n : Nat) (a0 : Nat) (a1 : Nat) (a2 : Nat) (a3 : Nat) (x4 : Int32) (o5 : Option Value) (o6 : Option Value) (h : mm_H) :
  mm_r282_305 E cl (n + 1) a0 a1 a2 a3 x4 o5 o6 h =
  mm_cI [] (cl 104 [.ref a1] h) fun v_2 h_1 =>
  mm_cI [] (cl 241 [.ref a2] h_1) fun v_4 h_3 =>
  (mm_br (v_2 = v_4) (
  mm_r282_1812 E cl n a0 a1 a2 a3 x4 o5 o6 h_3) (
  (mm_bz (mm_i 0) (some (.inl (some (.int (mm_i 0))), h_3))))) := rfl
set_option maxRecDepth 20000 in
set_option maxHeartbeats 4000000 in
theorem mm_e282_318 (E : mm_E) (cl : mm_F) (n : Nat) (a0 : Nat) (a1 : Nat) (a2 : Nat) (a3 : Nat) (x4 : Int32) (o5 : Option Value) (o6 : Option Value) (h : mm_H) :
  mm_r282_318 E cl (n + 1) a0 a1 a2 a3 x4 o5 o6 h =
  mm_rI E h a0 (x4 + (mm_i 1)) fun v_1 =>
  mm_cI [] (cl 263 [.ref a1, .int v_1, .ref a3] h) fun v_3 h_2 =>
  mm_rI E h_2 a0 (x4 + (mm_i 1)) fun v_4 =>
  mm_cI [] (cl 168 [.ref a2, .int v_4] h_2) fun v_6 h_5 =>
  mm_cI [] (cl 145 [.ref a2] h_5) fun v_8 h_7 =>
  (mm_br (v_8 = v_3) (
  mm_r282_354 E cl n a0 a1 a2 a3 x4 v_3 v_6 h_7) (
  (mm_bz (mm_i 0) (some (.inl (some (.int (mm_i 0))), h_7))))) := rfl
set_option maxRecDepth 20000 in
set_option maxHeartbeats 4000000 in
theorem mm_e282_354 (E : mm_E) (cl : mm_F) (n : Nat) (a0 : Nat) (a1 : Nat) (a2 : Nat) (a3 : Nat) (x4 : Int32) (x5 : Int32) (x6 : Int32) (h : mm_H) :
  mm_r282_354 E cl (n + 1) a0 a1 a2 a3 x4 x5 x6 h =
  (mm_br (x5 = (mm_i 0)) (
  mm_rJ h a3 (mm_i 0) fun w_1 =>
    (mm_br ((lg_cmp w_1 (Int32.toInt64 x6)) = (mm_i 0)) (
    mm_r282_1812 E cl n a0 a1 a2 a3 x4 (some (.int x5)) (some (.int x6)) h) (
    (mm_bz (mm_i 0) (some (.inl (some (.int (mm_i 0))), h)))))) (
  mm_r282_1812 E cl n a0 a1 a2 a3 x4 (some (.int x5)) (some (.int x6)) h)) := rfl
set_option maxRecDepth 20000 in
set_option maxHeartbeats 4000000 in
theorem mm_e282_374 (E : mm_E) (cl : mm_F) (n : Nat) (a0 : Nat) (a1 : Nat) (a2 : Nat) (a3 : Nat) (x4 : Int32) (o5 : Option Value) (o6 : Option Value) (h : mm_H) :
  mm_r282_374 E cl (n + 1) a0 a1 a2 a3 x4 o5 o6 h =
  mm_rI E h a0 (x4 + (mm_i 1)) fun v_1 =>
  mm_rI E h a0 (x4 + (mm_i 2)) fun v_2 =>
  mm_cI [] (cl 264 [.ref a1, .int v_1, .int v_2, .ref a3] h) fun v_4 h_3 =>
  mm_r282_393 E cl n a0 a1 a2 a3 x4 v_4 o6 h_3 := rfl
set_option maxRecDepth 20000 in
set_option maxHeartbeats 4000000 in
theorem mm_e282_393 (E : mm_E) (cl : mm_F) (n : Nat) (a0 : Nat) (a1 : Nat) (a2 : Nat) (a3 : Nat) (x4 : Int32) (x5 : Int32) (o6 : Option Value) (h : mm_H) :
  mm_r282_393 E cl (n + 1) a0 a1 a2 a3 x4 x5 o6 h =
  mm_rI E h a0 (x4 + (mm_i 1)) fun v_1 =>
  mm_rI E h a0 (x4 + (mm_i 2)) fun v_2 =>
  mm_cI [] (cl 169 [.ref a2, .int v_1, .int v_2] h) fun v_4 h_3 =>
  mm_cI [] (cl 145 [.ref a2] h_3) fun v_6 h_5 =>
  (mm_br (v_6 = x5) (
  (mm_br (x5 = (mm_i 0)) (
    mm_r282_427 E cl n a0 a1 a2 a3 x4 x5 v_4 h_5) (
    mm_r282_1812 E cl n a0 a1 a2 a3 x4 (some (.int x5)) (some (.int v_4)) h_5))) (
  (mm_bz (mm_i 0) (some (.inl (some (.int (mm_i 0))), h_5))))) := rfl
set_option maxRecDepth 20000 in
set_option maxHeartbeats 4000000 in
theorem mm_e282_427 (E : mm_E) (cl : mm_F) (n : Nat) (a0 : Nat) (a1 : Nat) (a2 : Nat) (a3 : Nat) (x4 : Int32) (x5 : Int32) (x6 : Int32) (h : mm_H) :
  mm_r282_427 E cl (n + 1) a0 a1 a2 a3 x4 x5 x6 h =
  mm_rJ h a3 (mm_i 0) fun w_1 =>
  (mm_br ((lg_cmp w_1 (Int32.toInt64 x6)) = (mm_i 0)) (
  mm_r282_1812 E cl n a0 a1 a2 a3 x4 (some (.int x5)) (some (.int x6)) h) (
  (mm_bz (mm_i 0) (some (.inl (some (.int (mm_i 0))), h))))) := rfl
set_option maxRecDepth 20000 in
set_option maxHeartbeats 4000000 in
theorem mm_e282_442 (E : mm_E) (cl : mm_F) (n : Nat) (a0 : Nat) (a1 : Nat) (a2 : Nat) (a3 : Nat) (x4 : Int32) (o5 : Option Value) (o6 : Option Value) (h : mm_H) :
  mm_r282_442 E cl (n + 1) a0 a1 a2 a3 x4 o5 o6 h =
  mm_rI E h a0 (x4 + (mm_i 1)) fun v_1 =>
  mm_rI E h a0 (x4 + (mm_i 2)) fun v_2 =>
  mm_cI [] (cl 265 [.ref a1, .int v_1, .int v_2, .ref a3] h) fun v_4 h_3 =>
  mm_r282_461 E cl n a0 a1 a2 a3 x4 v_4 o6 h_3 := rfl
set_option maxRecDepth 20000 in
set_option maxHeartbeats 4000000 in
theorem mm_e282_461 (E : mm_E) (cl : mm_F) (n : Nat) (a0 : Nat) (a1 : Nat) (a2 : Nat) (a3 : Nat) (x4 : Int32) (x5 : Int32) (o6 : Option Value) (h : mm_H) :
  mm_r282_461 E cl (n + 1) a0 a1 a2 a3 x4 x5 o6 h =
  mm_rI E h a0 (x4 + (mm_i 1)) fun v_1 =>
  mm_rI E h a0 (x4 + (mm_i 2)) fun v_2 =>
  mm_cI [] (cl 170 [.ref a2, .int v_1, .int v_2] h) fun v_4 h_3 =>
  mm_cI [] (cl 145 [.ref a2] h_3) fun v_6 h_5 =>
  (mm_br (v_6 = x5) (
  (mm_br (x5 = (mm_i 0)) (
    mm_r282_495 E cl n a0 a1 a2 a3 x4 x5 v_4 h_5) (
    mm_r282_1812 E cl n a0 a1 a2 a3 x4 (some (.int x5)) (some (.int v_4)) h_5))) (
  (mm_bz (mm_i 0) (some (.inl (some (.int (mm_i 0))), h_5))))) := rfl
set_option maxRecDepth 20000 in
set_option maxHeartbeats 4000000 in
theorem mm_e282_495 (E : mm_E) (cl : mm_F) (n : Nat) (a0 : Nat) (a1 : Nat) (a2 : Nat) (a3 : Nat) (x4 : Int32) (x5 : Int32) (x6 : Int32) (h : mm_H) :
  mm_r282_495 E cl (n + 1) a0 a1 a2 a3 x4 x5 x6 h =
  mm_rJ h a3 (mm_i 0) fun w_1 =>
  (mm_br ((lg_cmp w_1 (Int32.toInt64 x6)) = (mm_i 0)) (
  mm_r282_1812 E cl n a0 a1 a2 a3 x4 (some (.int x5)) (some (.int x6)) h) (
  (mm_bz (mm_i 0) (some (.inl (some (.int (mm_i 0))), h))))) := rfl
set_option maxRecDepth 20000 in
set_option maxHeartbeats 4000000 in
theorem mm_e282_510 (E : mm_E) (cl : mm_F) (n : Nat) (a0 : Nat) (a1 : Nat) (a2 : Nat) (a3 : Nat) (x4 : Int32) (o5 : Option Value) (o6 : Option Value) (h : mm_H) :
  mm_r282_510 E cl (n + 1) a0 a1 a2 a3 x4 o5 o6 h =
  mm_rI E h a0 (x4 + (mm_i 1)) fun v_1 =>
  mm_rI E h a0 (x4 + (mm_i 2)) fun v_2 =>
  mm_rI E h a0 (x4 + (mm_i 3)) fun v_3 =>
  mm_cI [] (cl 266 [.ref a1, .int v_1, .int v_2, .int v_3, .ref a3] h) fun v_5 h_4 =>
  mm_r282_535 E cl n a0 a1 a2 a3 x4 v_5 o6 h_4 := rfl
set_option maxRecDepth 20000 in
set_option maxHeartbeats 4000000 in
theorem mm_e282_535 (E : mm_E) (cl : mm_F) (n : Nat) (a0 : Nat) (a1 : Nat) (a2 : Nat) (a3 : Nat) (x4 : Int32) (x5 : Int32) (o6 : Option Value) (h : mm_H) :
  mm_r282_535 E cl (n + 1) a0 a1 a2 a3 x4 x5 o6 h =
  mm_rI E h a0 (x4 + (mm_i 1)) fun v_1 =>
  mm_rI E h a0 (x4 + (mm_i 2)) fun v_2 =>
  mm_rI E h a0 (x4 + (mm_i 3)) fun v_3 =>
  mm_cI [] (cl 167 [.ref a2, .int v_1, .int v_2, .int v_3] h) fun v_5 h_4 =>
  mm_r282_559 E cl n a0 a1 a2 a3 x4 x5 v_5 h_4 := rfl
set_option maxRecDepth 20000 in
set_option maxHeartbeats 4000000 in
theorem mm_e282_559 (E : mm_E) (cl : mm_F) (n : Nat) (a0 : Nat) (a1 : Nat) (a2 : Nat) (a3 : Nat) (x4 : Int32) (x5 : Int32) (x6 : Int32) (h : mm_H) :
  mm_r282_559 E cl (n + 1) a0 a1 a2 a3 x4 x5 x6 h =
  mm_cI [] (cl 145 [.ref a2] h) fun v_2 h_1 =>
  (mm_br (v_2 = x5) (
  mm_r282_570 E cl n a0 a1 a2 a3 x4 x5 x6 h_1) (
  (mm_bz (mm_i 0) (some (.inl (some (.int (mm_i 0))), h_1))))) := rfl
set_option maxRecDepth 20000 in
set_option maxHeartbeats 4000000 in
theorem mm_e282_570 (E : mm_E) (cl : mm_F) (n : Nat) (a0 : Nat) (a1 : Nat) (a2 : Nat) (a3 : Nat) (x4 : Int32) (x5 : Int32) (x6 : Int32) (h : mm_H) :
  mm_r282_570 E cl (n + 1) a0 a1 a2 a3 x4 x5 x6 h =
  (mm_br (x5 = (mm_i 0)) (
  mm_rJ h a3 (mm_i 0) fun w_1 =>
    (mm_br ((lg_cmp w_1 (Int32.toInt64 x6)) = (mm_i 0)) (
    mm_r282_1812 E cl n a0 a1 a2 a3 x4 (some (.int x5)) (some (.int x6)) h) (
    (mm_bz (mm_i 0) (some (.inl (some (.int (mm_i 0))), h)))))) (
  mm_r282_1812 E cl n a0 a1 a2 a3 x4 (some (.int x5)) (some (.int x6)) h)) := rfl
set_option maxRecDepth 20000 in
set_option maxHeartbeats 4000000 in
theorem mm_e282_590 (E : mm_E) (cl : mm_F) (n : Nat) (a0 : Nat) (a1 : Nat) (a2 : Nat) (a3 : Nat) (x4 : Int32) (o5 : Option Value) (o6 : Option Value) (h : mm_H) :
  mm_r282_590 E cl (n + 1) a0 a1 a2 a3 x4 o5 o6 h =
  mm_rI E h a0 (x4 + (mm_i 1)) fun v_1 =>
  mm_rI E h a0 (x4 + (mm_i 2)) fun v_2 =>
  mm_rI E h a0 (x4 + (mm_i 3)) fun v_3 =>
  mm_cI [] (cl 267 [.ref a1, .int v_1, .int v_2, .int v_3, .ref a3] h) fun v_5 h_4 =>
  mm_r282_615 E cl n a0 a1 a2 a3 x4 v_5 o6 h_4 := rfl
set_option maxRecDepth 20000 in
set_option maxHeartbeats 4000000 in
theorem mm_e282_615 (E : mm_E) (cl : mm_F) (n : Nat) (a0 : Nat) (a1 : Nat) (a2 : Nat) (a3 : Nat) (x4 : Int32) (x5 : Int32) (o6 : Option Value) (h : mm_H) :
  mm_r282_615 E cl (n + 1) a0 a1 a2 a3 x4 x5 o6 h =
  mm_rI E h a0 (x4 + (mm_i 1)) fun v_1 =>
  mm_rI E h a0 (x4 + (mm_i 2)) fun v_2 =>
  mm_rI E h a0 (x4 + (mm_i 3)) fun v_3 =>
  mm_cI [] (cl 173 [.ref a2, .int v_1, .int v_2, .int v_3] h) fun v_5 h_4 =>
  mm_r282_639 E cl n a0 a1 a2 a3 x4 x5 v_5 h_4 := rfl
set_option maxRecDepth 20000 in
set_option maxHeartbeats 4000000 in
theorem mm_e282_639 (E : mm_E) (cl : mm_F) (n : Nat) (a0 : Nat) (a1 : Nat) (a2 : Nat) (a3 : Nat) (x4 : Int32) (x5 : Int32) (x6 : Int32) (h : mm_H) :
  mm_r282_639 E cl (n + 1) a0 a1 a2 a3 x4 x5 x6 h =
  mm_cI [] (cl 145 [.ref a2] h) fun v_2 h_1 =>
  (mm_br (v_2 = x5) (
  mm_r282_650 E cl n a0 a1 a2 a3 x4 x5 x6 h_1) (
  (mm_bz (mm_i 0) (some (.inl (some (.int (mm_i 0))), h_1))))) := rfl
set_option maxRecDepth 20000 in
set_option maxHeartbeats 4000000 in
theorem mm_e282_650 (E : mm_E) (cl : mm_F) (n : Nat) (a0 : Nat) (a1 : Nat) (a2 : Nat) (a3 : Nat) (x4 : Int32) (x5 : Int32) (x6 : Int32) (h : mm_H) :
  mm_r282_650 E cl (n + 1) a0 a1 a2 a3 x4 x5 x6 h =
  (mm_br (x5 = (mm_i 0)) (
  mm_rJ h a3 (mm_i 0) fun w_1 =>
    (mm_br ((lg_cmp w_1 (Int32.toInt64 x6)) = (mm_i 0)) (
    mm_r282_1812 E cl n a0 a1 a2 a3 x4 (some (.int x5)) (some (.int x6)) h) (
    (mm_bz (mm_i 0) (some (.inl (some (.int (mm_i 0))), h)))))) (
  mm_r282_1812 E cl n a0 a1 a2 a3 x4 (some (.int x5)) (some (.int x6)) h)) := rfl
set_option maxRecDepth 20000 in
set_option maxHeartbeats 4000000 in
theorem mm_e282_670 (E : mm_E) (cl : mm_F) (n : Nat) (a0 : Nat) (a1 : Nat) (a2 : Nat) (a3 : Nat) (x4 : Int32) (o5 : Option Value) (o6 : Option Value) (h : mm_H) :
  mm_r282_670 E cl (n + 1) a0 a1 a2 a3 x4 o5 o6 h =
  mm_rI E h a0 (x4 + (mm_i 1)) fun v_1 =>
  mm_rI E h a0 (x4 + (mm_i 2)) fun v_2 =>
  (mm_br (v_2 = (mm_i 0)) (
  mm_r282_691 E cl n a0 a1 a2 a3 x4 o5 o6 a1 v_1 (mm_i 0) h) (
  mm_r282_691 E cl n a0 a1 a2 a3 x4 o5 o6 a1 v_1 (mm_i 1) h)) := rfl
set_option maxRecDepth 20000 in
set_option maxHeartbeats 4000000 in
theorem mm_e282_691 (E : mm_E) (cl : mm_F) (n : Nat) (a0 : Nat) (a1 : Nat) (a2 : Nat) (a3 : Nat) (x4 : Int32) (o5 : Option Value) (o6 : Option Value) (b0 : Nat) (s1 : Int32) (s2 : Int32) (h : mm_H) :
  mm_r282_691 E cl (n + 1) a0 a1 a2 a3 x4 o5 o6 b0 s1 s2 h =
  mm_rI E h a0 (x4 + (mm_i 3)) fun v_1 =>
  mm_rI E h a0 (x4 + (mm_i 4)) fun v_2 =>
  mm_cI [] (cl 110 [.ref b0, .int s1, .int s2, .int v_1, .int v_2] h) fun v_4 h_3 =>
  mm_rI E h_3 a0 (x4 + (mm_i 1)) fun v_5 =>
  mm_rI E h_3 a0 (x4 + (mm_i 2)) fun v_6 =>
  (mm_br (v_6 = (mm_i 0)) (
  mm_rI E h_3 a0 (x4 + (mm_i 3)) fun v_7 =>
    mm_rI E h_3 a0 (x4 + (mm_i 4)) fun v_8 =>
    mm_cI [] (cl 174 [.ref a2, .int v_5, .int (mm_i 0), .int v_7, .int v_8] h_3) fun v_10 h_9 =>
    (mm_br (v_4 = v_10) (
    mm_r282_1812 E cl n a0 a1 a2 a3 x4 o5 o6 h_9) (
    (mm_bz (mm_i 0) (some (.inl (some (.int (mm_i 0))), h_9)))))) (
  mm_rI E h_3 a0 (x4 + (mm_i 3)) fun v_11 =>
    mm_rI E h_3 a0 (x4 + (mm_i 4)) fun v_12 =>
    mm_cI [] (cl 174 [.ref a2, .int v_5, .int (mm_i 1), .int v_11, .int v_12] h_3) fun v_14 h_13 =>
    (mm_br (v_4 = v_14) (
    mm_r282_1812 E cl n a0 a1 a2 a3 x4 o5 o6 h_13) (
    (mm_bz (mm_i 0) (some (.inl (some (.int (mm_i 0))), h_13))))))) := rfl
set_option maxRecDepth 20000 in
set_option maxHeartbeats 4000000 in
theorem mm_e282_747 (E : mm_E) (cl : mm_F) (n : Nat) (a0 : Nat) (a1 : Nat) (a2 : Nat) (a3 : Nat) (x4 : Int32) (o5 : Option Value) (o6 : Option Value) (h : mm_H) :
  mm_r282_747 E cl (n + 1) a0 a1 a2 a3 x4 o5 o6 h =
  mm_rI E h a0 (x4 + (mm_i 1)) fun v_1 =>
  mm_rI E h a0 (x4 + (mm_i 2)) fun v_2 =>
  mm_cI [] (cl 111 [.ref a1, .int v_1, .int v_2] h) fun v_4 h_3 =>
  mm_rI E h_3 a0 (x4 + (mm_i 1)) fun v_5 =>
  mm_rI E h_3 a0 (x4 + (mm_i 2)) fun v_6 =>
  mm_cI [] (cl 175 [.ref a2, .int v_5, .int v_6] h_3) fun v_8 h_7 =>
  (mm_br (v_4 = v_8) (
  mm_r282_1812 E cl n a0 a1 a2 a3 x4 o5 o6 h_7) (
  (mm_bz (mm_i 0) (some (.inl (some (.int (mm_i 0))), h_7))))) := rfl
set_option maxRecDepth 20000 in
set_option maxHeartbeats 4000000 in
theorem mm_e282_784 (E : mm_E) (cl : mm_F) (n : Nat) (a0 : Nat) (a1 : Nat) (a2 : Nat) (a3 : Nat) (x4 : Int32) (o5 : Option Value) (o6 : Option Value) (h : mm_H) :
  mm_r282_784 E cl (n + 1) a0 a1 a2 a3 x4 o5 o6 h =
  mm_rI E h a0 (x4 + (mm_i 1)) fun v_1 =>
  mm_rI E h a0 (x4 + (mm_i 2)) fun v_2 =>
  mm_cI [] (cl 268 [.ref a1, .int v_1, .int v_2, .ref a3] h) fun v_4 h_3 =>
  mm_r282_803 E cl n a0 a1 a2 a3 x4 v_4 o6 h_3 := rfl
set_option maxRecDepth 20000 in
set_option maxHeartbeats 4000000 in
theorem mm_e282_803 (E : mm_E) (cl : mm_F) (n : Nat) (a0 : Nat) (a1 : Nat) (a2 : Nat) (a3 : Nat) (x4 : Int32) (x5 : Int32) (o6 : Option Value) (h : mm_H) :
  mm_r282_803 E cl (n + 1) a0 a1 a2 a3 x4 x5 o6 h =
  mm_rI E h a0 (x4 + (mm_i 1)) fun v_1 =>
  mm_rI E h a0 (x4 + (mm_i 2)) fun v_2 =>
  mm_cI [] (cl 176 [.ref a2, .int v_1, .int v_2] h) fun v_4 h_3 =>
  mm_cI [] (cl 145 [.ref a2] h_3) fun v_6 h_5 =>
  (mm_br (v_6 = x5) (
  (mm_br (x5 = (mm_i 0)) (
    mm_r282_837 E cl n a0 a1 a2 a3 x4 x5 v_4 h_5) (
    mm_r282_1812 E cl n a0 a1 a2 a3 x4 (some (.int x5)) (some (.int v_4)) h_5))) (
  (mm_bz (mm_i 0) (some (.inl (some (.int (mm_i 0))), h_5))))) := rfl
set_option maxRecDepth 20000 in
set_option maxHeartbeats 4000000 in
theorem mm_e282_837 (E : mm_E) (cl : mm_F) (n : Nat) (a0 : Nat) (a1 : Nat) (a2 : Nat) (a3 : Nat) (x4 : Int32) (x5 : Int32) (x6 : Int32) (h : mm_H) :
  mm_r282_837 E cl (n + 1) a0 a1 a2 a3 x4 x5 x6 h =
  mm_rJ h a3 (mm_i 0) fun w_1 =>
  (mm_br ((lg_cmp w_1 (Int32.toInt64 x6)) = (mm_i 0)) (
  mm_r282_1812 E cl n a0 a1 a2 a3 x4 (some (.int x5)) (some (.int x6)) h) (
  (mm_bz (mm_i 0) (some (.inl (some (.int (mm_i 0))), h))))) := rfl
set_option maxRecDepth 20000 in
set_option maxHeartbeats 4000000 in
theorem mm_e282_852 (E : mm_E) (cl : mm_F) (n : Nat) (a0 : Nat) (a1 : Nat) (a2 : Nat) (a3 : Nat) (x4 : Int32) (o5 : Option Value) (o6 : Option Value) (h : mm_H) :
  mm_r282_852 E cl (n + 1) a0 a1 a2 a3 x4 o5 o6 h =
  mm_cI [] (cl 113 [.ref a1] h) fun v_2 h_1 =>
  mm_cI [] (cl 178 [.ref a2] h_1) fun v_4 h_3 =>
  (mm_br (v_2 = v_4) (
  mm_r282_1812 E cl n a0 a1 a2 a3 x4 o5 o6 h_3) (
  (mm_bz (mm_i 0) (some (.inl (some (.int (mm_i 0))), h_3))))) := rfl
set_option maxRecDepth 20000 in
set_option maxHeartbeats 4000000 in
theorem mm_e282_865 (E : mm_E) (cl : mm_F) (n : Nat) (a0 : Nat) (a1 : Nat) (a2 : Nat) (a3 : Nat) (x4 : Int32) (o5 : Option Value) (o6 : Option Value) (h : mm_H) :
  mm_r282_865 E cl (n + 1) a0 a1 a2 a3 x4 o5 o6 h =
  mm_rI E h a0 (x4 + (mm_i 1)) fun v_1 =>
  mm_cI [] (cl 114 [.ref a1, .int v_1] h) fun v_3 h_2 =>
  mm_rI E h_2 a0 (x4 + (mm_i 1)) fun v_4 =>
  mm_cI [] (cl 190 [.ref a2, .int v_4] h_2) fun v_6 h_5 =>
  (mm_br (v_3 = v_6) (
  mm_r282_1812 E cl n a0 a1 a2 a3 x4 o5 o6 h_5) (
  (mm_bz (mm_i 0) (some (.inl (some (.int (mm_i 0))), h_5))))) := rfl
set_option maxRecDepth 20000 in
set_option maxHeartbeats 4000000 in
theorem mm_e282_890 (E : mm_E) (cl : mm_F) (n : Nat) (a0 : Nat) (a1 : Nat) (a2 : Nat) (a3 : Nat) (x4 : Int32) (o5 : Option Value) (o6 : Option Value) (h : mm_H) :
  mm_r282_890 E cl (n + 1) a0 a1 a2 a3 x4 o5 o6 h =
  mm_rI E h a0 (x4 + (mm_i 1)) fun v_1 =>
  mm_rI E h a0 (x4 + (mm_i 2)) fun v_2 =>
  mm_cI [] (cl 269 [.ref a1, .int v_1, .int v_2, .ref a3] h) fun v_4 h_3 =>
  mm_r282_909 E cl n a0 a1 a2 a3 x4 v_4 o6 h_3 := rfl
set_option maxRecDepth 20000 in
set_option maxHeartbeats 4000000 in
theorem mm_e282_909 (E : mm_E) (cl : mm_F) (n : Nat) (a0 : Nat) (a1 : Nat) (a2 : Nat) (a3 : Nat) (x4 : Int32) (x5 : Int32) (o6 : Option Value) (h : mm_H) :
  mm_r282_909 E cl (n + 1) a0 a1 a2 a3 x4 x5 o6 h =
  mm_rI E h a0 (x4 + (mm_i 1)) fun v_1 =>
  mm_rI E h a0 (x4 + (mm_i 2)) fun v_2 =>
  mm_cI [] (cl 187 [.ref a2, .int v_1, .int v_2] h) fun v_4 h_3 =>
  mm_cI [] (cl 145 [.ref a2] h_3) fun v_6 h_5 =>
  (mm_br (v_6 = x5) (
  (mm_br (x5 = (mm_i 0)) (
    mm_r282_943 E cl n a0 a1 a2 a3 x4 x5 v_4 h_5) (
    mm_r282_1812 E cl n a0 a1 a2 a3 x4 (some (.int x5)) (some (.int v_4)) h_5))) (
  (mm_bz (mm_i 0) (some (.inl (some (.int (mm_i 0))), h_5))))) := rfl
set_option maxRecDepth 20000 in
set_option maxHeartbeats 4000000 in
theorem mm_e282_943 (E : mm_E) (cl : mm_F) (n : Nat) (a0 : Nat) (a1 : Nat) (a2 : Nat) (a3 : Nat) (x4 : Int32) (x5 : Int32) (x6 : Int32) (h : mm_H) :
  mm_r282_943 E cl (n + 1) a0 a1 a2 a3 x4 x5 x6 h =
  mm_rJ h a3 (mm_i 0) fun w_1 =>
  (mm_br ((lg_cmp w_1 (Int32.toInt64 x6)) = (mm_i 0)) (
  mm_r282_1812 E cl n a0 a1 a2 a3 x4 (some (.int x5)) (some (.int x6)) h) (
  (mm_bz (mm_i 0) (some (.inl (some (.int (mm_i 0))), h))))) := rfl
set_option maxRecDepth 20000 in
set_option maxHeartbeats 4000000 in
theorem mm_e282_958 (E : mm_E) (cl : mm_F) (n : Nat) (a0 : Nat) (a1 : Nat) (a2 : Nat) (a3 : Nat) (x4 : Int32) (o5 : Option Value) (o6 : Option Value) (h : mm_H) :
  mm_r282_958 E cl (n + 1) a0 a1 a2 a3 x4 o5 o6 h =
  mm_rI E h a0 (x4 + (mm_i 1)) fun v_1 =>
  mm_rI E h a0 (x4 + (mm_i 2)) fun v_2 =>
  mm_cI [] (cl 270 [.ref a1, .int v_1, .int v_2, .ref a3] h) fun v_4 h_3 =>
  mm_r282_977 E cl n a0 a1 a2 a3 x4 v_4 o6 h_3 := rfl
set_option maxRecDepth 20000 in
set_option maxHeartbeats 4000000 in
theorem mm_e282_977 (E : mm_E) (cl : mm_F) (n : Nat) (a0 : Nat) (a1 : Nat) (a2 : Nat) (a3 : Nat) (x4 : Int32) (x5 : Int32) (o6 : Option Value) (h : mm_H) :
  mm_r282_977 E cl (n + 1) a0 a1 a2 a3 x4 x5 o6 h =
  mm_rI E h a0 (x4 + (mm_i 1)) fun v_1 =>
  mm_rI E h a0 (x4 + (mm_i 2)) fun v_2 =>
  mm_cI [] (cl 185 [.ref a2, .int v_1, .int v_2] h) fun v_4 h_3 =>
  mm_cI [] (cl 145 [.ref a2] h_3) fun v_6 h_5 =>
  (mm_br (v_6 = x5) (
  (mm_br (x5 = (mm_i 0)) (
    mm_r282_1011 E cl n a0 a1 a2 a3 x4 x5 v_4 h_5) (
    mm_r282_1812 E cl n a0 a1 a2 a3 x4 (some (.int x5)) (some (.int v_4)) h_5))) (
  (mm_bz (mm_i 0) (some (.inl (some (.int (mm_i 0))), h_5))))) := rfl
set_option maxRecDepth 20000 in
set_option maxHeartbeats 4000000 in
theorem mm_e282_1011 (E : mm_E) (cl : mm_F) (n : Nat) (a0 : Nat) (a1 : Nat) (a2 : Nat) (a3 : Nat) (x4 : Int32) (x5 : Int32) (x6 : Int32) (h : mm_H) :
  mm_r282_1011 E cl (n + 1) a0 a1 a2 a3 x4 x5 x6 h =
  mm_rJ h a3 (mm_i 0) fun w_1 =>
  (mm_br ((lg_cmp w_1 (Int32.toInt64 x6)) = (mm_i 0)) (
  mm_r282_1812 E cl n a0 a1 a2 a3 x4 (some (.int x5)) (some (.int x6)) h) (
  (mm_bz (mm_i 0) (some (.inl (some (.int (mm_i 0))), h))))) := rfl
set_option maxRecDepth 20000 in
set_option maxHeartbeats 4000000 in
theorem mm_e282_1026 (E : mm_E) (cl : mm_F) (n : Nat) (a0 : Nat) (a1 : Nat) (a2 : Nat) (a3 : Nat) (x4 : Int32) (o5 : Option Value) (o6 : Option Value) (h : mm_H) :
  mm_r282_1026 E cl (n + 1) a0 a1 a2 a3 x4 o5 o6 h =
  mm_rI E h a0 (x4 + (mm_i 1)) fun v_1 =>
  mm_cI [] (cl 271 [.ref a1, .int v_1, .ref a3] h) fun v_3 h_2 =>
  mm_rI E h_2 a0 (x4 + (mm_i 1)) fun v_4 =>
  mm_cI [] (cl 186 [.ref a2, .int v_4] h_2) fun v_6 h_5 =>
  mm_cI [] (cl 145 [.ref a2] h_5) fun v_8 h_7 =>
  (mm_br (v_8 = v_3) (
  mm_r282_1062 E cl n a0 a1 a2 a3 x4 v_3 v_6 h_7) (
  (mm_bz (mm_i 0) (some (.inl (some (.int (mm_i 0))), h_7))))) := rfl
set_option maxRecDepth 20000 in
set_option maxHeartbeats 4000000 in
theorem mm_e282_1062 (E : mm_E) (cl : mm_F) (n : Nat) (a0 : Nat) (a1 : Nat) (a2 : Nat) (a3 : Nat) (x4 : Int32) (x5 : Int32) (x6 : Int32) (h : mm_H) :
  mm_r282_1062 E cl (n + 1) a0 a1 a2 a3 x4 x5 x6 h =
  (mm_br (x5 = (mm_i 0)) (
  mm_rJ h a3 (mm_i 0) fun w_1 =>
    (mm_br ((lg_cmp w_1 (Int32.toInt64 x6)) = (mm_i 0)) (
    mm_r282_1812 E cl n a0 a1 a2 a3 x4 (some (.int x5)) (some (.int x6)) h) (
    (mm_bz (mm_i 0) (some (.inl (some (.int (mm_i 0))), h)))))) (
  mm_r282_1812 E cl n a0 a1 a2 a3 x4 (some (.int x5)) (some (.int x6)) h)) := rfl
set_option maxRecDepth 20000 in
set_option maxHeartbeats 4000000 in
theorem mm_e282_1082 (E : mm_E) (cl : mm_F) (n : Nat) (a0 : Nat) (a1 : Nat) (a2 : Nat) (a3 : Nat) (x4 : Int32) (o5 : Option Value) (o6 : Option Value) (h : mm_H) :
  mm_r282_1082 E cl (n + 1) a0 a1 a2 a3 x4 o5 o6 h =
  mm_cI [] (cl 118 [.ref a1] h) fun v_2 h_1 =>
  mm_cI [] (cl 204 [.ref a2] h_1) fun v_4 h_3 =>
  (mm_br (v_2 = v_4) (
  mm_r282_1812 E cl n a0 a1 a2 a3 x4 o5 o6 h_3) (
  (mm_bz (mm_i 0) (some (.inl (some (.int (mm_i 0))), h_3))))) := rfl
set_option maxRecDepth 20000 in
set_option maxHeartbeats 4000000 in
theorem mm_e282_1095 (E : mm_E) (cl : mm_F) (n : Nat) (a0 : Nat) (a1 : Nat) (a2 : Nat) (a3 : Nat) (x4 : Int32) (o5 : Option Value) (o6 : Option Value) (h : mm_H) :
  mm_r282_1095 E cl (n + 1) a0 a1 a2 a3 x4 o5 o6 h =
  mm_rI E h a0 (x4 + (mm_i 1)) fun v_1 =>
  mm_rI E h a0 (x4 + (mm_i 2)) fun v_2 =>
  mm_cI [] (cl 272 [.ref a1, .int v_1, .int v_2, .ref a3] h) fun v_4 h_3 =>
  mm_r282_1114 E cl n a0 a1 a2 a3 x4 v_4 o6 h_3 := rfl
set_option maxRecDepth 20000 in
set_option maxHeartbeats 4000000 in
theorem mm_e282_1114 (E : mm_E) (cl : mm_F) (n : Nat) (a0 : Nat) (a1 : Nat) (a2 : Nat) (a3 : Nat) (x4 : Int32) (x5 : Int32) (o6 : Option Value) (h : mm_H) :
  mm_r282_1114 E cl (n + 1) a0 a1 a2 a3 x4 x5 o6 h =
  mm_rI E h a0 (x4 + (mm_i 1)) fun v_1 =>
  mm_rI E h a0 (x4 + (mm_i 2)) fun v_2 =>
  mm_cI [] (cl 207 [.ref a2, .int v_1, .int v_2] h) fun v_4 h_3 =>
  mm_cI [] (cl 145 [.ref a2] h_3) fun v_6 h_5 =>
  (mm_br (v_6 = x5) (
  (mm_br (x5 = (mm_i 0)) (
    mm_r282_1148 E cl n a0 a1 a2 a3 x4 x5 v_4 h_5) (
    mm_r282_1812 E cl n a0 a1 a2 a3 x4 (some (.int x5)) (some (.int v_4)) h_5))) (
  (mm_bz (mm_i 0) (some (.inl (some (.int (mm_i 0))), h_5))))) := rfl
set_option maxRecDepth 20000 in
set_option maxHeartbeats 4000000 in
theorem mm_e282_1148 (E : mm_E) (cl : mm_F) (n : Nat) (a0 : Nat) (a1 : Nat) (a2 : Nat) (a3 : Nat) (x4 : Int32) (x5 : Int32) (x6 : Int32) (h : mm_H) :
  mm_r282_1148 E cl (n + 1) a0 a1 a2 a3 x4 x5 x6 h =
  mm_rJ h a3 (mm_i 0) fun w_1 =>
  (mm_br ((lg_cmp w_1 (Int32.toInt64 x6)) = (mm_i 0)) (
  mm_r282_1812 E cl n a0 a1 a2 a3 x4 (some (.int x5)) (some (.int x6)) h) (
  (mm_bz (mm_i 0) (some (.inl (some (.int (mm_i 0))), h))))) := rfl
set_option maxRecDepth 20000 in
set_option maxHeartbeats 4000000 in
theorem mm_e282_1163 (E : mm_E) (cl : mm_F) (n : Nat) (a0 : Nat) (a1 : Nat) (a2 : Nat) (a3 : Nat) (x4 : Int32) (o5 : Option Value) (o6 : Option Value) (h : mm_H) :
  mm_r282_1163 E cl (n + 1) a0 a1 a2 a3 x4 o5 o6 h =
  mm_rI E h a0 (x4 + (mm_i 1)) fun v_1 =>
  mm_cI [] (cl 273 [.ref a1, .int v_1, .ref a3] h) fun v_3 h_2 =>
  mm_rI E h_2 a0 (x4 + (mm_i 1)) fun v_4 =>
  mm_cI [] (cl 209 [.ref a2, .int v_4] h_2) fun v_6 h_5 =>
  mm_cI [] (cl 145 [.ref a2] h_5) fun v_8 h_7 =>
  (mm_br (v_8 = v_3) (
  mm_r282_1199 E cl n a0 a1 a2 a3 x4 v_3 v_6 h_7) (
  (mm_bz (mm_i 0) (some (.inl (some (.int (mm_i 0))), h_7))))) := rfl
set_option maxRecDepth 20000 in
set_option maxHeartbeats 4000000 in
theorem mm_e282_1199 (E : mm_E) (cl : mm_F) (n : Nat) (a0 : Nat) (a1 : Nat) (a2 : Nat) (a3 : Nat) (x4 : Int32) (x5 : Int32) (x6 : Int32) (h : mm_H) :
  mm_r282_1199 E cl (n + 1) a0 a1 a2 a3 x4 x5 x6 h =
  (mm_br (x5 = (mm_i 0)) (
  mm_rJ h a3 (mm_i 0) fun w_1 =>
    (mm_br ((lg_cmp w_1 (Int32.toInt64 x6)) = (mm_i 0)) (
    mm_r282_1812 E cl n a0 a1 a2 a3 x4 (some (.int x5)) (some (.int x6)) h) (
    (mm_bz (mm_i 0) (some (.inl (some (.int (mm_i 0))), h)))))) (
  mm_r282_1812 E cl n a0 a1 a2 a3 x4 (some (.int x5)) (some (.int x6)) h)) := rfl
set_option maxRecDepth 20000 in
set_option maxHeartbeats 4000000 in
theorem mm_e282_1219 (E : mm_E) (cl : mm_F) (n : Nat) (a0 : Nat) (a1 : Nat) (a2 : Nat) (a3 : Nat) (x4 : Int32) (o5 : Option Value) (o6 : Option Value) (h : mm_H) :
  mm_r282_1219 E cl (n + 1) a0 a1 a2 a3 x4 o5 o6 h =
  mm_rI E h a0 (x4 + (mm_i 1)) fun v_1 =>
  mm_cI [] (cl 121 [.ref a1, .int v_1] h) fun v_3 h_2 =>
  mm_rI E h_2 a0 (x4 + (mm_i 1)) fun v_4 =>
  mm_cI [] (cl 210 [.ref a2, .int v_4] h_2) fun v_6 h_5 =>
  (mm_br (v_3 = v_6) (
  mm_r282_1812 E cl n a0 a1 a2 a3 x4 o5 o6 h_5) (
  (mm_bz (mm_i 0) (some (.inl (some (.int (mm_i 0))), h_5))))) := rfl
set_option maxRecDepth 20000 in
set_option maxHeartbeats 4000000 in
theorem mm_e282_1244 (E : mm_E) (cl : mm_F) (n : Nat) (a0 : Nat) (a1 : Nat) (a2 : Nat) (a3 : Nat) (x4 : Int32) (o5 : Option Value) (o6 : Option Value) (h : mm_H) :
  mm_r282_1244 E cl (n + 1) a0 a1 a2 a3 x4 o5 o6 h =
  mm_rI E h a0 (x4 + (mm_i 1)) fun v_1 =>
  mm_rI E h a0 (x4 + (mm_i 2)) fun v_2 =>
  mm_cI [] (cl 274 [.ref a1, .int v_1, .int v_2, .ref a3] h) fun v_4 h_3 =>
  mm_r282_1263 E cl n a0 a1 a2 a3 x4 v_4 o6 h_3 := rfl
set_option maxRecDepth 20000 in
set_option maxHeartbeats 4000000 in
theorem mm_e282_1263 (E : mm_E) (cl : mm_F) (n : Nat) (a0 : Nat) (a1 : Nat) (a2 : Nat) (a3 : Nat) (x4 : Int32) (x5 : Int32) (o6 : Option Value) (h : mm_H) :
  mm_r282_1263 E cl (n + 1) a0 a1 a2 a3 x4 x5 o6 h =
  mm_rI E h a0 (x4 + (mm_i 1)) fun v_1 =>
  mm_rI E h a0 (x4 + (mm_i 2)) fun v_2 =>
  mm_cI [] (cl 211 [.ref a2, .int v_1, .int v_2] h) fun v_4 h_3 =>
  mm_cI [] (cl 145 [.ref a2] h_3) fun v_6 h_5 =>
  (mm_br (v_6 = x5) (
  (mm_br (x5 = (mm_i 0)) (
    mm_r282_1297 E cl n a0 a1 a2 a3 x4 x5 v_4 h_5) (
    mm_r282_1812 E cl n a0 a1 a2 a3 x4 (some (.int x5)) (some (.int v_4)) h_5))) (
  (mm_bz (mm_i 0) (some (.inl (some (.int (mm_i 0))), h_5))))) := rfl
set_option maxRecDepth 20000 in
set_option maxHeartbeats 4000000 in
theorem mm_e282_1297 (E : mm_E) (cl : mm_F) (n : Nat) (a0 : Nat) (a1 : Nat) (a2 : Nat) (a3 : Nat) (x4 : Int32) (x5 : Int32) (x6 : Int32) (h : mm_H) :
  mm_r282_1297 E cl (n + 1) a0 a1 a2 a3 x4 x5 x6 h =
  mm_rJ h a3 (mm_i 0) fun w_1 =>
  (mm_br ((lg_cmp w_1 (Int32.toInt64 x6)) = (mm_i 0)) (
  mm_r282_1812 E cl n a0 a1 a2 a3 x4 (some (.int x5)) (some (.int x6)) h) (
  (mm_bz (mm_i 0) (some (.inl (some (.int (mm_i 0))), h))))) := rfl
set_option maxRecDepth 20000 in
set_option maxHeartbeats 4000000 in
theorem mm_e282_1312 (E : mm_E) (cl : mm_F) (n : Nat) (a0 : Nat) (a1 : Nat) (a2 : Nat) (a3 : Nat) (x4 : Int32) (o5 : Option Value) (o6 : Option Value) (h : mm_H) :
  mm_r282_1312 E cl (n + 1) a0 a1 a2 a3 x4 o5 o6 h =
  mm_rI E h a0 (x4 + (mm_i 1)) fun v_1 =>
  mm_rI E h a0 (x4 + (mm_i 2)) fun v_2 =>
  mm_rI E h a0 (x4 + (mm_i 3)) fun v_3 =>
  mm_cI [] (cl 275 [.ref a1, .int v_1, .int v_2, .int v_3, .ref a3] h) fun v_5 h_4 =>
  mm_r282_1337 E cl n a0 a1 a2 a3 x4 v_5 o6 h_4 := rfl
set_option maxRecDepth 20000 in
set_option maxHeartbeats 4000000 in
theorem mm_e282_1337 (E : mm_E) (cl : mm_F) (n : Nat) (a0 : Nat) (a1 : Nat) (a2 : Nat) (a3 : Nat) (x4 : Int32) (x5 : Int32) (o6 : Option Value) (h : mm_H) :
  mm_r282_1337 E cl (n + 1) a0 a1 a2 a3 x4 x5 o6 h =
  mm_rI E h a0 (x4 + (mm_i 1)) fun v_1 =>
  mm_rI E h a0 (x4 + (mm_i 2)) fun v_2 =>
  mm_rI E h a0 (x4 + (mm_i 3)) fun v_3 =>
  mm_cI [] (cl 214 [.ref a2, .int v_1, .int v_2, .int v_3] h) fun v_5 h_4 =>
  mm_r282_1361 E cl n a0 a1 a2 a3 x4 x5 v_5 h_4 := rfl
set_option maxRecDepth 20000 in
set_option maxHeartbeats 4000000 in
theorem mm_e282_1361 (E : mm_E) (cl : mm_F) (n : Nat) (a0 : Nat) (a1 : Nat) (a2 : Nat) (a3 : Nat) (x4 : Int32) (x5 : Int32) (x6 : Int32) (h : mm_H) :
  mm_r282_1361 E cl (n + 1) a0 a1 a2 a3 x4 x5 x6 h =
  mm_cI [] (cl 145 [.ref a2] h) fun v_2 h_1 =>
  (mm_br (v_2 = x5) (
  mm_r282_1372 E cl n a0 a1 a2 a3 x4 x5 x6 h_1) (
  (mm_bz (mm_i 0) (some (.inl (some (.int (mm_i 0))), h_1))))) := rfl
set_option maxRecDepth 20000 in
set_option maxHeartbeats 4000000 in
theorem mm_e282_1372 (E : mm_E) (cl : mm_F) (n : Nat) (a0 : Nat) (a1 : Nat) (a2 : Nat) (a3 : Nat) (x4 : Int32) (x5 : Int32) (x6 : Int32) (h : mm_H) :
  mm_r282_1372 E cl (n + 1) a0 a1 a2 a3 x4 x5 x6 h =
  (mm_br (x5 = (mm_i 0)) (
  mm_rJ h a3 (mm_i 0) fun w_1 =>
    (mm_br ((lg_cmp w_1 (Int32.toInt64 x6)) = (mm_i 0)) (
    mm_r282_1812 E cl n a0 a1 a2 a3 x4 (some (.int x5)) (some (.int x6)) h) (
    (mm_bz (mm_i 0) (some (.inl (some (.int (mm_i 0))), h)))))) (
  mm_r282_1812 E cl n a0 a1 a2 a3 x4 (some (.int x5)) (some (.int x6)) h)) := rfl
set_option maxRecDepth 20000 in
set_option maxHeartbeats 4000000 in
theorem mm_e282_1392 (E : mm_E) (cl : mm_F) (n : Nat) (a0 : Nat) (a1 : Nat) (a2 : Nat) (a3 : Nat) (x4 : Int32) (o5 : Option Value) (o6 : Option Value) (h : mm_H) :
  mm_r282_1392 E cl (n + 1) a0 a1 a2 a3 x4 o5 o6 h =
  mm_rI E h a0 (x4 + (mm_i 1)) fun v_1 =>
  mm_rI E h a0 (x4 + (mm_i 2)) fun v_2 =>
  mm_cI [] (cl 276 [.ref a1, .int v_1, .int v_2, .ref a3] h) fun v_4 h_3 =>
  mm_r282_1411 E cl n a0 a1 a2 a3 x4 v_4 o6 h_3 := rfl
set_option maxRecDepth 20000 in
set_option maxHeartbeats 4000000 in
theorem mm_e282_1411 (E : mm_E) (cl : mm_F) (n : Nat) (a0 : Nat) (a1 : Nat) (a2 : Nat) (a3 : Nat) (x4 : Int32) (x5 : Int32) (o6 : Option Value) (h : mm_H) :
  mm_r282_1411 E cl (n + 1) a0 a1 a2 a3 x4 x5 o6 h =
  mm_rI E h a0 (x4 + (mm_i 1)) fun v_1 =>
  mm_rI E h a0 (x4 + (mm_i 2)) fun v_2 =>
  mm_cI [] (cl 216 [.ref a2, .int v_1, .int v_2] h) fun v_4 h_3 =>
  mm_cI [] (cl 145 [.ref a2] h_3) fun v_6 h_5 =>
  (mm_br (v_6 = x5) (
  (mm_br (x5 = (mm_i 0)) (
    mm_r282_1445 E cl n a0 a1 a2 a3 x4 x5 v_4 h_5) (
    mm_r282_1812 E cl n a0 a1 a2 a3 x4 (some (.int x5)) (some (.int v_4)) h_5))) (
  (mm_bz (mm_i 0) (some (.inl (some (.int (mm_i 0))), h_5))))) := rfl
set_option maxRecDepth 20000 in
set_option maxHeartbeats 4000000 in
theorem mm_e282_1445 (E : mm_E) (cl : mm_F) (n : Nat) (a0 : Nat) (a1 : Nat) (a2 : Nat) (a3 : Nat) (x4 : Int32) (x5 : Int32) (x6 : Int32) (h : mm_H) :
  mm_r282_1445 E cl (n + 1) a0 a1 a2 a3 x4 x5 x6 h =
  mm_rJ h a3 (mm_i 0) fun w_1 =>
  (mm_br ((lg_cmp w_1 (Int32.toInt64 x6)) = (mm_i 0)) (
  mm_r282_1812 E cl n a0 a1 a2 a3 x4 (some (.int x5)) (some (.int x6)) h) (
  (mm_bz (mm_i 0) (some (.inl (some (.int (mm_i 0))), h))))) := rfl
set_option maxRecDepth 20000 in
set_option maxHeartbeats 4000000 in
theorem mm_e282_1460 (E : mm_E) (cl : mm_F) (n : Nat) (a0 : Nat) (a1 : Nat) (a2 : Nat) (a3 : Nat) (x4 : Int32) (o5 : Option Value) (o6 : Option Value) (h : mm_H) :
  mm_r282_1460 E cl (n + 1) a0 a1 a2 a3 x4 o5 o6 h =
  mm_rI E h a0 (x4 + (mm_i 1)) fun v_1 =>
  mm_rI E h a0 (x4 + (mm_i 2)) fun v_2 =>
  mm_rI E h a0 (x4 + (mm_i 3)) fun v_3 =>
  mm_cI [] (cl 277 [.ref a1, .int v_1, .int v_2, .int v_3, .ref a3] h) fun v_5 h_4 =>
  mm_r282_1485 E cl n a0 a1 a2 a3 x4 v_5 o6 h_4 := rfl
set_option maxRecDepth 20000 in
set_option maxHeartbeats 4000000 in
theorem mm_e282_1485 (E : mm_E) (cl : mm_F) (n : Nat) (a0 : Nat) (a1 : Nat) (a2 : Nat) (a3 : Nat) (x4 : Int32) (x5 : Int32) (o6 : Option Value) (h : mm_H) :
  mm_r282_1485 E cl (n + 1) a0 a1 a2 a3 x4 x5 o6 h =
  mm_rI E h a0 (x4 + (mm_i 1)) fun v_1 =>
  mm_rI E h a0 (x4 + (mm_i 2)) fun v_2 =>
  mm_rI E h a0 (x4 + (mm_i 3)) fun v_3 =>
  mm_cI [] (cl 221 [.ref a2, .int v_1, .int v_2, .int v_3] h) fun v_5 h_4 =>
  mm_r282_1509 E cl n a0 a1 a2 a3 x4 x5 v_5 h_4 := rfl
set_option maxRecDepth 20000 in
set_option maxHeartbeats 4000000 in
theorem mm_e282_1509 (E : mm_E) (cl : mm_F) (n : Nat) (a0 : Nat) (a1 : Nat) (a2 : Nat) (a3 : Nat) (x4 : Int32) (x5 : Int32) (x6 : Int32) (h : mm_H) :
  mm_r282_1509 E cl (n + 1) a0 a1 a2 a3 x4 x5 x6 h =
  mm_cI [] (cl 145 [.ref a2] h) fun v_2 h_1 =>
  (mm_br (v_2 = x5) (
  mm_r282_1520 E cl n a0 a1 a2 a3 x4 x5 x6 h_1) (
  (mm_bz (mm_i 0) (some (.inl (some (.int (mm_i 0))), h_1))))) := rfl
set_option maxRecDepth 20000 in
set_option maxHeartbeats 4000000 in
theorem mm_e282_1520 (E : mm_E) (cl : mm_F) (n : Nat) (a0 : Nat) (a1 : Nat) (a2 : Nat) (a3 : Nat) (x4 : Int32) (x5 : Int32) (x6 : Int32) (h : mm_H) :
  mm_r282_1520 E cl (n + 1) a0 a1 a2 a3 x4 x5 x6 h =
  (mm_br (x5 = (mm_i 0)) (
  mm_rJ h a3 (mm_i 0) fun w_1 =>
    (mm_br ((lg_cmp w_1 (Int32.toInt64 x6)) = (mm_i 0)) (
    mm_r282_1812 E cl n a0 a1 a2 a3 x4 (some (.int x5)) (some (.int x6)) h) (
    (mm_bz (mm_i 0) (some (.inl (some (.int (mm_i 0))), h)))))) (
  mm_r282_1812 E cl n a0 a1 a2 a3 x4 (some (.int x5)) (some (.int x6)) h)) := rfl
set_option maxRecDepth 20000 in
set_option maxHeartbeats 4000000 in
theorem mm_e282_1540 (E : mm_E) (cl : mm_F) (n : Nat) (a0 : Nat) (a1 : Nat) (a2 : Nat) (a3 : Nat) (x4 : Int32) (o5 : Option Value) (o6 : Option Value) (h : mm_H) :
  mm_r282_1540 E cl (n + 1) a0 a1 a2 a3 x4 o5 o6 h =
  mm_rI E h a0 (x4 + (mm_i 1)) fun v_1 =>
  mm_rI E h a0 (x4 + (mm_i 2)) fun v_2 =>
  mm_cI [] (cl 278 [.ref a1, .int v_1, .int v_2, .ref a3] h) fun v_4 h_3 =>
  mm_r282_1559 E cl n a0 a1 a2 a3 x4 v_4 o6 h_3 := rfl
set_option maxRecDepth 20000 in
set_option maxHeartbeats 4000000 in
theorem mm_e282_1559 (E : mm_E) (cl : mm_F) (n : Nat) (a0 : Nat) (a1 : Nat) (a2 : Nat) (a3 : Nat) (x4 : Int32) (x5 : Int32) (o6 : Option Value) (h : mm_H) :
  mm_r282_1559 E cl (n + 1) a0 a1 a2 a3 x4 x5 o6 h =
  mm_rI E h a0 (x4 + (mm_i 1)) fun v_1 =>
  mm_rI E h a0 (x4 + (mm_i 2)) fun v_2 =>
  mm_cI [] (cl 222 [.ref a2, .int v_1, .int v_2] h) fun v_4 h_3 =>
  mm_cI [] (cl 145 [.ref a2] h_3) fun v_6 h_5 =>
  (mm_br (v_6 = x5) (
  (mm_br (x5 = (mm_i 0)) (
    mm_r282_1593 E cl n a0 a1 a2 a3 x4 x5 v_4 h_5) (
    mm_r282_1812 E cl n a0 a1 a2 a3 x4 (some (.int x5)) (some (.int v_4)) h_5))) (
  (mm_bz (mm_i 0) (some (.inl (some (.int (mm_i 0))), h_5))))) := rfl
set_option maxRecDepth 20000 in
set_option maxHeartbeats 4000000 in
theorem mm_e282_1593 (E : mm_E) (cl : mm_F) (n : Nat) (a0 : Nat) (a1 : Nat) (a2 : Nat) (a3 : Nat) (x4 : Int32) (x5 : Int32) (x6 : Int32) (h : mm_H) :
  mm_r282_1593 E cl (n + 1) a0 a1 a2 a3 x4 x5 x6 h =
  mm_rJ h a3 (mm_i 0) fun w_1 =>
  (mm_br ((lg_cmp w_1 (Int32.toInt64 x6)) = (mm_i 0)) (
  mm_r282_1812 E cl n a0 a1 a2 a3 x4 (some (.int x5)) (some (.int x6)) h) (
  (mm_bz (mm_i 0) (some (.inl (some (.int (mm_i 0))), h))))) := rfl
set_option maxRecDepth 20000 in
set_option maxHeartbeats 4000000 in
theorem mm_e282_1608 (E : mm_E) (cl : mm_F) (n : Nat) (a0 : Nat) (a1 : Nat) (a2 : Nat) (a3 : Nat) (x4 : Int32) (o5 : Option Value) (o6 : Option Value) (h : mm_H) :
  mm_r282_1608 E cl (n + 1) a0 a1 a2 a3 x4 o5 o6 h =
  mm_rI E h a0 (x4 + (mm_i 1)) fun v_1 =>
  mm_cI [] (cl 279 [.ref a1, .int v_1, .ref a3] h) fun v_3 h_2 =>
  mm_rI E h_2 a0 (x4 + (mm_i 1)) fun v_4 =>
  mm_cI [] (cl 261 [.ref a2, .int v_4] h_2) fun v_6 h_5 =>
  mm_cI [] (cl 145 [.ref a2] h_5) fun v_8 h_7 =>
  (mm_br (v_8 = v_3) (
  mm_r282_1644 E cl n a0 a1 a2 a3 x4 v_3 v_6 h_7) (
  (mm_bz (mm_i 0) (some (.inl (some (.int (mm_i 0))), h_7))))) := rfl
set_option maxRecDepth 20000 in
set_option maxHeartbeats 4000000 in
theorem mm_e282_1644 (E : mm_E) (cl : mm_F) (n : Nat) (a0 : Nat) (a1 : Nat) (a2 : Nat) (a3 : Nat) (x4 : Int32) (x5 : Int32) (x6 : Int32) (h : mm_H) :
  mm_r282_1644 E cl (n + 1) a0 a1 a2 a3 x4 x5 x6 h =
  (mm_br (x5 = (mm_i 0)) (
  mm_rJ h a3 (mm_i 0) fun w_1 =>
    (mm_br ((lg_cmp w_1 (Int32.toInt64 x6)) = (mm_i 0)) (
    mm_r282_1812 E cl n a0 a1 a2 a3 x4 (some (.int x5)) (some (.int x6)) h) (
    (mm_bz (mm_i 0) (some (.inl (some (.int (mm_i 0))), h)))))) (
  mm_r282_1812 E cl n a0 a1 a2 a3 x4 (some (.int x5)) (some (.int x6)) h)) := rfl
set_option maxRecDepth 20000 in
set_option maxHeartbeats 4000000 in
theorem mm_e282_1664 (E : mm_E) (cl : mm_F) (n : Nat) (a0 : Nat) (a1 : Nat) (a2 : Nat) (a3 : Nat) (x4 : Int32) (o5 : Option Value) (o6 : Option Value) (h : mm_H) :
  mm_r282_1664 E cl (n + 1) a0 a1 a2 a3 x4 o5 o6 h =
  mm_rI E h a0 (x4 + (mm_i 1)) fun v_1 =>
  mm_rI E h a0 (x4 + (mm_i 2)) fun v_2 =>
  mm_cI [] (cl 280 [.ref a1, .int v_1, .int v_2, .ref a3] h) fun v_4 h_3 =>
  mm_r282_1683 E cl n a0 a1 a2 a3 x4 v_4 o6 h_3 := rfl
set_option maxRecDepth 20000 in
set_option maxHeartbeats 4000000 in
theorem mm_e282_1683 (E : mm_E) (cl : mm_F) (n : Nat) (a0 : Nat) (a1 : Nat) (a2 : Nat) (a3 : Nat) (x4 : Int32) (x5 : Int32) (o6 : Option Value) (h : mm_H) :
  mm_r282_1683 E cl (n + 1) a0 a1 a2 a3 x4 x5 o6 h =
  mm_rI E h a0 (x4 + (mm_i 1)) fun v_1 =>
  mm_rI E h a0 (x4 + (mm_i 2)) fun v_2 =>
  mm_cI [] (cl 224 [.ref a2, .int v_1, .int v_2] h) fun v_4 h_3 =>
  mm_cI [] (cl 145 [.ref a2] h_3) fun v_6 h_5 =>
  (mm_br (v_6 = x5) (
  (mm_br (x5 = (mm_i 0)) (
    mm_r282_1717 E cl n a0 a1 a2 a3 x4 x5 v_4 h_5) (
    mm_r282_1812 E cl n a0 a1 a2 a3 x4 (some (.int x5)) (some (.int v_4)) h_5))) (
  (mm_bz (mm_i 0) (some (.inl (some (.int (mm_i 0))), h_5))))) := rfl
set_option maxRecDepth 20000 in
set_option maxHeartbeats 4000000 in
theorem mm_e282_1717 (E : mm_E) (cl : mm_F) (n : Nat) (a0 : Nat) (a1 : Nat) (a2 : Nat) (a3 : Nat) (x4 : Int32) (x5 : Int32) (x6 : Int32) (h : mm_H) :
  mm_r282_1717 E cl (n + 1) a0 a1 a2 a3 x4 x5 x6 h =
  mm_rJ h a3 (mm_i 0) fun w_1 =>
  (mm_br ((lg_cmp w_1 (Int32.toInt64 x6)) = (mm_i 0)) (
  mm_r282_1812 E cl n a0 a1 a2 a3 x4 (some (.int x5)) (some (.int x6)) h) (
  (mm_bz (mm_i 0) (some (.inl (some (.int (mm_i 0))), h))))) := rfl
set_option maxRecDepth 20000 in
set_option maxHeartbeats 4000000 in
theorem mm_e282_1732 (E : mm_E) (cl : mm_F) (n : Nat) (a0 : Nat) (a1 : Nat) (a2 : Nat) (a3 : Nat) (x4 : Int32) (o5 : Option Value) (o6 : Option Value) (h : mm_H) :
  mm_r282_1732 E cl (n + 1) a0 a1 a2 a3 x4 o5 o6 h =
  mm_rI E h a0 (x4 + (mm_i 1)) fun v_1 =>
  mm_cI [] (cl 281 [.ref a1, .int v_1, .ref a3] h) fun v_3 h_2 =>
  mm_rI E h_2 a0 (x4 + (mm_i 1)) fun v_4 =>
  mm_cI [] (cl 213 [.ref a2, .int v_4] h_2) fun v_6 h_5 =>
  mm_cI [] (cl 145 [.ref a2] h_5) fun v_8 h_7 =>
  (mm_br (v_8 = v_3) (
  mm_r282_1768 E cl n a0 a1 a2 a3 x4 v_3 v_6 h_7) (
  (mm_bz (mm_i 0) (some (.inl (some (.int (mm_i 0))), h_7))))) := rfl
set_option maxRecDepth 20000 in
set_option maxHeartbeats 4000000 in
theorem mm_e282_1768 (E : mm_E) (cl : mm_F) (n : Nat) (a0 : Nat) (a1 : Nat) (a2 : Nat) (a3 : Nat) (x4 : Int32) (x5 : Int32) (x6 : Int32) (h : mm_H) :
  mm_r282_1768 E cl (n + 1) a0 a1 a2 a3 x4 x5 x6 h =
  (mm_br (x5 = (mm_i 0)) (
  mm_rJ h a3 (mm_i 0) fun w_1 =>
    (mm_br ((lg_cmp w_1 (Int32.toInt64 x6)) = (mm_i 0)) (
    mm_r282_1812 E cl n a0 a1 a2 a3 x4 (some (.int x5)) (some (.int x6)) h) (
    (mm_bz (mm_i 0) (some (.inl (some (.int (mm_i 0))), h)))))) (
  mm_r282_1812 E cl n a0 a1 a2 a3 x4 (some (.int x5)) (some (.int x6)) h)) := rfl
set_option maxRecDepth 20000 in
set_option maxHeartbeats 4000000 in
theorem mm_e282_1788 (E : mm_E) (cl : mm_F) (n : Nat) (a0 : Nat) (a1 : Nat) (a2 : Nat) (a3 : Nat) (x4 : Int32) (o5 : Option Value) (o6 : Option Value) (h : mm_H) :
  mm_r282_1788 E cl (n + 1) a0 a1 a2 a3 x4 o5 o6 h =
  mm_cV [] (cl 130 [.ref a1] h) fun h_1 =>
  mm_cV [] (cl 226 [.ref a2] h_1) fun h_2 =>
  mm_r282_1812 E cl n a0 a1 a2 a3 x4 o5 o6 h_2 := rfl
set_option maxRecDepth 20000 in
set_option maxHeartbeats 4000000 in
theorem mm_e282_1799 (E : mm_E) (cl : mm_F) (n : Nat) (a0 : Nat) (a1 : Nat) (a2 : Nat) (a3 : Nat) (x4 : Int32) (o5 : Option Value) (o6 : Option Value) (h : mm_H) :
  mm_r282_1799 E cl (n + 1) a0 a1 a2 a3 x4 o5 o6 h =
  mm_cI [] (cl 131 [.ref a1] h) fun v_2 h_1 =>
  mm_cI [] (cl 227 [.ref a2] h_1) fun v_4 h_3 =>
  (mm_br (v_2 = v_4) (
  mm_r282_1812 E cl n a0 a1 a2 a3 x4 o5 o6 h_3) (
  (mm_bz (mm_i 0) (some (.inl (some (.int (mm_i 0))), h_3))))) := rfl
set_option maxRecDepth 20000 in
set_option maxHeartbeats 4000000 in
theorem mm_e282_1812 (E : mm_E) (cl : mm_F) (n : Nat) (a0 : Nat) (a1 : Nat) (a2 : Nat) (a3 : Nat) (x4 : Int32) (o5 : Option Value) (o6 : Option Value) (h : mm_H) :
  mm_r282_1812 E cl (n + 1) a0 a1 a2 a3 x4 o5 o6 h =
  mm_r282_23 E cl n a0 a1 a2 a3 (x4 + (mm_i 6)) o5 o6 h := rfl
