/-! EQUATIONS of the runs, part 8 (by program: wip/whole/genpure.py) -/
-- Law.network
noncomputable def mm_r262_0 (E : mm_E) (cl : mm_F) (n : Nat) (a0 : Nat) (x1 : Int32) (a2 : Nat) (h : mm_H) : mm_R := mm_run E cl mm_m262 n 0 [some (.ref a0), some (.int x1), some (.ref a2), none] [] h
set_option maxRecDepth 20000 in
set_option maxHeartbeats 4000000 in
theorem mm_e262_0 (E : mm_E) (cl : mm_F) (n : Nat) (a0 : Nat) (x1 : Int32) (a2 : Nat) (h : mm_H) :
  mm_r262_0 E cl (n + 1) a0 x1 a2 h =
  mm_cI [(1, 1)] (cl 103 [.ref a0, .int x1] h) fun v_2 h_1 =>
  mm_wJ h_1 a2 (mm_i 0) (Int32.toInt64 v_2) fun h_3 =>
  some (.inl (some (.int (mm_i 0))), h_3) := (rfl)
-- Law.count
noncomputable def mm_r263_0 (E : mm_E) (cl : mm_F) (n : Nat) (a0 : Nat) (x1 : Int32) (a2 : Nat) (h : mm_H) : mm_R := mm_run E cl mm_m263 n 0 [some (.ref a0), some (.int x1), some (.ref a2), none] [] h
set_option maxRecDepth 20000 in
set_option maxHeartbeats 4000000 in
theorem mm_e263_0 (E : mm_E) (cl : mm_F) (n : Nat) (a0 : Nat) (x1 : Int32) (a2 : Nat) (h : mm_H) :
  mm_r263_0 E cl (n + 1) a0 x1 a2 h =
  mm_cI [(0, 1)] (cl 105 [.ref a0, .int x1] h) fun v_2 h_1 =>
  mm_wJ h_1 a2 (mm_i 0) (Int32.toInt64 v_2) fun h_3 =>
  some (.inl (some (.int (mm_i 0))), h_3) := (rfl)
-- Law.letter
noncomputable def mm_r264_0 (E : mm_E) (cl : mm_F) (n : Nat) (a0 : Nat) (x1 : Int32) (x2 : Int32) (a3 : Nat) (h : mm_H) : mm_R := mm_run E cl mm_m264 n 0 [some (.ref a0), some (.int x1), some (.int x2), some (.ref a3), none] [] h
set_option maxRecDepth 20000 in
set_option maxHeartbeats 4000000 in
theorem mm_e264_0 (E : mm_E) (cl : mm_F) (n : Nat) (a0 : Nat) (x1 : Int32) (x2 : Int32) (a3 : Nat) (h : mm_H) :
  mm_r264_0 E cl (n + 1) a0 x1 x2 a3 h =
  mm_cI [(0, 1)] (cl 106 [.ref a0, .int x1, .int x2] h) fun v_2 h_1 =>
  mm_wJ h_1 a3 (mm_i 0) (Int32.toInt64 v_2) fun h_3 =>
  some (.inl (some (.int (mm_i 0))), h_3) := (rfl)
-- Law.stage
noncomputable def mm_r265_0 (E : mm_E) (cl : mm_F) (n : Nat) (a0 : Nat) (x1 : Int32) (x2 : Int32) (a3 : Nat) (h : mm_H) : mm_R := mm_run E cl mm_m265 n 0 [some (.ref a0), some (.int x1), some (.int x2), some (.ref a3), none] [] h
set_option maxRecDepth 20000 in
set_option maxHeartbeats 4000000 in
theorem mm_e265_0 (E : mm_E) (cl : mm_F) (n : Nat) (a0 : Nat) (x1 : Int32) (x2 : Int32) (a3 : Nat) (h : mm_H) :
  mm_r265_0 E cl (n + 1) a0 x1 x2 a3 h =
  mm_cI [(0, 1)] (cl 107 [.ref a0, .int x1, .int x2] h) fun v_2 h_1 =>
  mm_wJ h_1 a3 (mm_i 0) (Int32.toInt64 v_2) fun h_3 =>
  some (.inl (some (.int (mm_i 0))), h_3) := (rfl)
-- Law.bound
noncomputable def mm_r266_0 (E : mm_E) (cl : mm_F) (n : Nat) (a0 : Nat) (x1 : Int32) (x2 : Int32) (x3 : Int32) (a4 : Nat) (h : mm_H) : mm_R := mm_run E cl mm_m266 n 0 [some (.ref a0), some (.int x1), some (.int x2), some (.int x3), some (.ref a4), none] [] h
set_option maxRecDepth 20000 in
set_option maxHeartbeats 4000000 in
theorem mm_e266_0 (E : mm_E) (cl : mm_F) (n : Nat) (a0 : Nat) (x1 : Int32) (x2 : Int32) (x3 : Int32) (a4 : Nat) (h : mm_H) :
  mm_r266_0 E cl (n + 1) a0 x1 x2 x3 a4 h =
  mm_cI [(0, 1), (1, 2)] (cl 108 [.ref a0, .int x1, .int x2, .int x3] h) fun v_2 h_1 =>
  mm_wJ h_1 a4 (mm_i 0) (Int32.toInt64 v_2) fun h_3 =>
  some (.inl (some (.int (mm_i 0))), h_3) := (rfl)
-- Law.change
noncomputable def mm_r267_0 (E : mm_E) (cl : mm_F) (n : Nat) (a0 : Nat) (x1 : Int32) (x2 : Int32) (x3 : Int32) (a4 : Nat) (h : mm_H) : mm_R := mm_run E cl mm_m267 n 0 [some (.ref a0), some (.int x1), some (.int x2), some (.int x3), some (.ref a4), none] [] h
set_option maxRecDepth 20000 in
set_option maxHeartbeats 4000000 in
theorem mm_e267_0 (E : mm_E) (cl : mm_F) (n : Nat) (a0 : Nat) (x1 : Int32) (x2 : Int32) (x3 : Int32) (a4 : Nat) (h : mm_H) :
  mm_r267_0 E cl (n + 1) a0 x1 x2 x3 a4 h =
  mm_cI [(0, 1), (1, 2)] (cl 109 [.ref a0, .int x1, .int x2, .int x3] h) fun v_2 h_1 =>
  mm_wJ h_1 a4 (mm_i 0) (Int32.toInt64 v_2) fun h_3 =>
  some (.inl (some (.int (mm_i 0))), h_3) := (rfl)
-- Law.pin
noncomputable def mm_r268_0 (E : mm_E) (cl : mm_F) (n : Nat) (a0 : Nat) (x1 : Int32) (x2 : Int32) (a3 : Nat) (h : mm_H) : mm_R := mm_run E cl mm_m268 n 0 [some (.ref a0), some (.int x1), some (.int x2), some (.ref a3), none] [] h
set_option maxRecDepth 20000 in
set_option maxHeartbeats 4000000 in
theorem mm_e268_0 (E : mm_E) (cl : mm_F) (n : Nat) (a0 : Nat) (x1 : Int32) (x2 : Int32) (a3 : Nat) (h : mm_H) :
  mm_r268_0 E cl (n + 1) a0 x1 x2 a3 h =
  mm_cI [(0, 1), (1, 2)] (cl 112 [.ref a0, .int x1, .int x2] h) fun v_2 h_1 =>
  mm_wJ h_1 a3 (mm_i 0) (Int32.toInt64 v_2) fun h_3 =>
  some (.inl (some (.int (mm_i 0))), h_3) := (rfl)
-- Law.promise
noncomputable def mm_r269_0 (E : mm_E) (cl : mm_F) (n : Nat) (a0 : Nat) (x1 : Int32) (x2 : Int32) (a3 : Nat) (h : mm_H) : mm_R := mm_run E cl mm_m269 n 0 [some (.ref a0), some (.int x1), some (.int x2), some (.ref a3), none] [] h
set_option maxRecDepth 20000 in
set_option maxHeartbeats 4000000 in
theorem mm_e269_0 (E : mm_E) (cl : mm_F) (n : Nat) (a0 : Nat) (x1 : Int32) (x2 : Int32) (a3 : Nat) (h : mm_H) :
  mm_r269_0 E cl (n + 1) a0 x1 x2 a3 h =
  mm_cI [(0, 1), (1, 2)] (cl 115 [.ref a0, .int x1, .int x2] h) fun v_2 h_1 =>
  mm_wJ h_1 a3 (mm_i 0) (Int32.toInt64 v_2) fun h_3 =>
  some (.inl (some (.int (mm_i 0))), h_3) := (rfl)
-- Law.planned
noncomputable def mm_r270_0 (E : mm_E) (cl : mm_F) (n : Nat) (a0 : Nat) (x1 : Int32) (x2 : Int32) (a3 : Nat) (h : mm_H) : mm_R := mm_run E cl mm_m270 n 0 [some (.ref a0), some (.int x1), some (.int x2), some (.ref a3), none] [] h
set_option maxRecDepth 20000 in
set_option maxHeartbeats 4000000 in
theorem mm_e270_0 (E : mm_E) (cl : mm_F) (n : Nat) (a0 : Nat) (x1 : Int32) (x2 : Int32) (a3 : Nat) (h : mm_H) :
  mm_r270_0 E cl (n + 1) a0 x1 x2 a3 h =
  mm_cI [(0, 1)] (cl 116 [.ref a0, .int x1, .int x2] h) fun v_2 h_1 =>
  mm_wJ h_1 a3 (mm_i 0) (Int32.toInt64 v_2) fun h_3 =>
  some (.inl (some (.int (mm_i 0))), h_3) := (rfl)
-- Law.plan
noncomputable def mm_r271_0 (E : mm_E) (cl : mm_F) (n : Nat) (a0 : Nat) (x1 : Int32) (a2 : Nat) (h : mm_H) : mm_R := mm_run E cl mm_m271 n 0 [some (.ref a0), some (.int x1), some (.ref a2), none] [] h
set_option maxRecDepth 20000 in
set_option maxHeartbeats 4000000 in
theorem mm_e271_0 (E : mm_E) (cl : mm_F) (n : Nat) (a0 : Nat) (x1 : Int32) (a2 : Nat) (h : mm_H) :
  mm_r271_0 E cl (n + 1) a0 x1 a2 h =
  mm_cI [(0, 1)] (cl 117 [.ref a0, .int x1] h) fun v_2 h_1 =>
  mm_wJ h_1 a2 (mm_i 0) (Int32.toInt64 v_2) fun h_3 =>
  some (.inl (some (.int (mm_i 0))), h_3) := (rfl)
-- Law.worth
noncomputable def mm_r272_0 (E : mm_E) (cl : mm_F) (n : Nat) (a0 : Nat) (x1 : Int32) (x2 : Int32) (a3 : Nat) (h : mm_H) : mm_R := mm_run E cl mm_m272 n 0 [some (.ref a0), some (.int x1), some (.int x2), some (.ref a3), none] [] h
set_option maxRecDepth 20000 in
set_option maxHeartbeats 4000000 in
theorem mm_e272_0 (E : mm_E) (cl : mm_F) (n : Nat) (a0 : Nat) (x1 : Int32) (x2 : Int32) (a3 : Nat) (h : mm_H) :
  mm_r272_0 E cl (n + 1) a0 x1 x2 a3 h =
  mm_cI [(0, 1)] (cl 119 [.ref a0, .int x1, .int x2] h) fun v_2 h_1 =>
  mm_wJ h_1 a3 (mm_i 0) (Int32.toInt64 v_2) fun h_3 =>
  some (.inl (some (.int (mm_i 0))), h_3) := (rfl)
-- Law.even
noncomputable def mm_r273_0 (E : mm_E) (cl : mm_F) (n : Nat) (a0 : Nat) (x1 : Int32) (a2 : Nat) (h : mm_H) : mm_R := mm_run E cl mm_m273 n 0 [some (.ref a0), some (.int x1), some (.ref a2), none] [] h
set_option maxRecDepth 20000 in
set_option maxHeartbeats 4000000 in
theorem mm_e273_0 (E : mm_E) (cl : mm_F) (n : Nat) (a0 : Nat) (x1 : Int32) (a2 : Nat) (h : mm_H) :
  mm_r273_0 E cl (n + 1) a0 x1 a2 h =
  mm_cI [(1, 1)] (cl 120 [.ref a0, .int x1] h) fun v_2 h_1 =>
  mm_wJ h_1 a2 (mm_i 0) (Int32.toInt64 v_2) fun h_3 =>
  some (.inl (some (.int (mm_i 0))), h_3) := (rfl)
-- Law.pinned
noncomputable def mm_r274_0 (E : mm_E) (cl : mm_F) (n : Nat) (a0 : Nat) (x1 : Int32) (x2 : Int32) (a3 : Nat) (h : mm_H) : mm_R := mm_run E cl mm_m274 n 0 [some (.ref a0), some (.int x1), some (.int x2), some (.ref a3), none] [] h
set_option maxRecDepth 20000 in
set_option maxHeartbeats 4000000 in
theorem mm_e274_0 (E : mm_E) (cl : mm_F) (n : Nat) (a0 : Nat) (x1 : Int32) (x2 : Int32) (a3 : Nat) (h : mm_H) :
  mm_r274_0 E cl (n + 1) a0 x1 x2 a3 h =
  mm_cI [(0, 1), (1, 2)] (cl 122 [.ref a0, .int x1, .int x2] h) fun v_2 h_1 =>
  mm_wJ h_1 a3 (mm_i 0) (Int32.toInt64 v_2) fun h_3 =>
  some (.inl (some (.int (mm_i 0))), h_3) := (rfl)
-- Law.demand
noncomputable def mm_r275_0 (E : mm_E) (cl : mm_F) (n : Nat) (a0 : Nat) (x1 : Int32) (x2 : Int32) (x3 : Int32) (a4 : Nat) (h : mm_H) : mm_R := mm_run E cl mm_m275 n 0 [some (.ref a0), some (.int x1), some (.int x2), some (.int x3), some (.ref a4), none] [] h
set_option maxRecDepth 20000 in
set_option maxHeartbeats 4000000 in
theorem mm_e275_0 (E : mm_E) (cl : mm_F) (n : Nat) (a0 : Nat) (x1 : Int32) (x2 : Int32) (x3 : Int32) (a4 : Nat) (h : mm_H) :
  mm_r275_0 E cl (n + 1) a0 x1 x2 x3 a4 h =
  mm_cI [(0, 1), (1, 2)] (cl 123 [.ref a0, .int x1, .int x2, .int x3] h) fun v_2 h_1 =>
  mm_wJ h_1 a4 (mm_i 0) (Int32.toInt64 v_2) fun h_3 =>
  some (.inl (some (.int (mm_i 0))), h_3) := (rfl)
-- Law.drawn
noncomputable def mm_r276_0 (E : mm_E) (cl : mm_F) (n : Nat) (a0 : Nat) (x1 : Int32) (x2 : Int32) (a3 : Nat) (h : mm_H) : mm_R := mm_run E cl mm_m276 n 0 [some (.ref a0), some (.int x1), some (.int x2), some (.ref a3), none] [] h
set_option maxRecDepth 20000 in
set_option maxHeartbeats 4000000 in
theorem mm_e276_0 (E : mm_E) (cl : mm_F) (n : Nat) (a0 : Nat) (x1 : Int32) (x2 : Int32) (a3 : Nat) (h : mm_H) :
  mm_r276_0 E cl (n + 1) a0 x1 x2 a3 h =
  mm_cI [(0, 1)] (cl 124 [.ref a0, .int x1, .int x2] h) fun v_2 h_1 =>
  mm_wJ h_1 a3 (mm_i 0) (Int32.toInt64 v_2) fun h_3 =>
  some (.inl (some (.int (mm_i 0))), h_3) := (rfl)
-- Law.day
noncomputable def mm_r277_0 (E : mm_E) (cl : mm_F) (n : Nat) (a0 : Nat) (x1 : Int32) (x2 : Int32) (x3 : Int32) (a4 : Nat) (h : mm_H) : mm_R := mm_run E cl mm_m277 n 0 [some (.ref a0), some (.int x1), some (.int x2), some (.int x3), some (.ref a4), none] [] h
set_option maxRecDepth 20000 in
set_option maxHeartbeats 4000000 in
theorem mm_e277_0 (E : mm_E) (cl : mm_F) (n : Nat) (a0 : Nat) (x1 : Int32) (x2 : Int32) (x3 : Int32) (a4 : Nat) (h : mm_H) :
  mm_r277_0 E cl (n + 1) a0 x1 x2 x3 a4 h =
  mm_cI [(0, 1)] (cl 125 [.ref a0, .int x1, .int x2, .int x3] h) fun v_2 h_1 =>
  mm_wJ h_1 a4 (mm_i 0) (Int32.toInt64 v_2) fun h_3 =>
  some (.inl (some (.int (mm_i 0))), h_3) := (rfl)
-- Law.days
noncomputable def mm_r278_0 (E : mm_E) (cl : mm_F) (n : Nat) (a0 : Nat) (x1 : Int32) (x2 : Int32) (a3 : Nat) (h : mm_H) : mm_R := mm_run E cl mm_m278 n 0 [some (.ref a0), some (.int x1), some (.int x2), some (.ref a3), none] [] h
set_option maxRecDepth 20000 in
set_option maxHeartbeats 4000000 in
theorem mm_e278_0 (E : mm_E) (cl : mm_F) (n : Nat) (a0 : Nat) (x1 : Int32) (x2 : Int32) (a3 : Nat) (h : mm_H) :
  mm_r278_0 E cl (n + 1) a0 x1 x2 a3 h =
  mm_cI [(0, 1)] (cl 126 [.ref a0, .int x1, .int x2] h) fun v_2 h_1 =>
  mm_wJ h_1 a3 (mm_i 0) (Int32.toInt64 v_2) fun h_3 =>
  some (.inl (some (.int (mm_i 0))), h_3) := (rfl)
-- Law.ask
noncomputable def mm_r279_0 (E : mm_E) (cl : mm_F) (n : Nat) (a0 : Nat) (x1 : Int32) (a2 : Nat) (h : mm_H) : mm_R := mm_run E cl mm_m279 n 0 [some (.ref a0), some (.int x1), some (.ref a2), none] [] h
set_option maxRecDepth 20000 in
set_option maxHeartbeats 4000000 in
theorem mm_e279_0 (E : mm_E) (cl : mm_F) (n : Nat) (a0 : Nat) (x1 : Int32) (a2 : Nat) (h : mm_H) :
  mm_r279_0 E cl (n + 1) a0 x1 a2 h =
  mm_cI [(1, 1)] (cl 127 [.ref a0, .int x1] h) fun v_2 h_1 =>
  mm_wJ h_1 a2 (mm_i 0) (Int32.toInt64 v_2) fun h_3 =>
  some (.inl (some (.int (mm_i 0))), h_3) := (rfl)
-- Law.chain
noncomputable def mm_r280_0 (E : mm_E) (cl : mm_F) (n : Nat) (a0 : Nat) (x1 : Int32) (x2 : Int32) (a3 : Nat) (h : mm_H) : mm_R := mm_run E cl mm_m280 n 0 [some (.ref a0), some (.int x1), some (.int x2), some (.ref a3), none] [] h
set_option maxRecDepth 20000 in
set_option maxHeartbeats 4000000 in
theorem mm_e280_0 (E : mm_E) (cl : mm_F) (n : Nat) (a0 : Nat) (x1 : Int32) (x2 : Int32) (a3 : Nat) (h : mm_H) :
  mm_r280_0 E cl (n + 1) a0 x1 x2 a3 h =
  mm_cI [(0, 1)] (cl 128 [.ref a0, .int x1, .int x2] h) fun v_2 h_1 =>
  mm_wJ h_1 a3 (mm_i 0) (Int32.toInt64 v_2) fun h_3 =>
  some (.inl (some (.int (mm_i 0))), h_3) := (rfl)
-- Law.frontier
noncomputable def mm_r281_0 (E : mm_E) (cl : mm_F) (n : Nat) (a0 : Nat) (x1 : Int32) (a2 : Nat) (h : mm_H) : mm_R := mm_run E cl mm_m281 n 0 [some (.ref a0), some (.int x1), some (.ref a2), none] [] h
set_option maxRecDepth 20000 in
set_option maxHeartbeats 4000000 in
theorem mm_e281_0 (E : mm_E) (cl : mm_F) (n : Nat) (a0 : Nat) (x1 : Int32) (a2 : Nat) (h : mm_H) :
  mm_r281_0 E cl (n + 1) a0 x1 a2 h =
  mm_cI [(0, 1)] (cl 129 [.ref a0, .int x1] h) fun v_2 h_1 =>
  mm_wJ h_1 a2 (mm_i 0) (Int32.toInt64 v_2) fun h_3 =>
  some (.inl (some (.int (mm_i 0))), h_3) := (rfl)
-- Int.bitCount
noncomputable def mm_r283_0 (E : mm_E) (cl : mm_F) (n : Nat) (x0 : Int32) (h : mm_H) : mm_R := mm_run E cl mm_m283 n 0 [some (.int x0)] [] h
set_option maxRecDepth 20000 in
set_option maxHeartbeats 4000000 in
theorem mm_e283_0 (E : mm_E) (cl : mm_F) (n : Nat) (x0 : Int32) (h : mm_H) :
  mm_r283_0 E cl (n + 1) x0 h =
  some (.inl (some (.int ((((((((x0 - ((((x0).toUInt32 >>> (((mm_i 1) : Int32).toUInt32 &&& Int32.toUInt32 31)).toInt32) &&& (mm_i 1431655765))) &&& (mm_i 858993459)) + (((((x0 - ((((x0).toUInt32 >>> (((mm_i 1) : Int32).toUInt32 &&& Int32.toUInt32 31)).toInt32) &&& (mm_i 1431655765)))).toUInt32 >>> (((mm_i 2) : Int32).toUInt32 &&& Int32.toUInt32 31)).toInt32) &&& (mm_i 858993459))) + ((((((x0 - ((((x0).toUInt32 >>> (((mm_i 1) : Int32).toUInt32 &&& Int32.toUInt32 31)).toInt32) &&& (mm_i 1431655765))) &&& (mm_i 858993459)) + (((((x0 - ((((x0).toUInt32 >>> (((mm_i 1) : Int32).toUInt32 &&& Int32.toUInt32 31)).toInt32) &&& (mm_i 1431655765)))).toUInt32 >>> (((mm_i 2) : Int32).toUInt32 &&& Int32.toUInt32 31)).toInt32) &&& (mm_i 858993459)))).toUInt32 >>> (((mm_i 4) : Int32).toUInt32 &&& Int32.toUInt32 31)).toInt32)) &&& (mm_i 252645135)) + ((((((((x0 - ((((x0).toUInt32 >>> (((mm_i 1) : Int32).toUInt32 &&& Int32.toUInt32 31)).toInt32) &&& (mm_i 1431655765))) &&& (mm_i 858993459)) + (((((x0 - ((((x0).toUInt32 >>> (((mm_i 1) : Int32).toUInt32 &&& Int32.toUInt32 31)).toInt32) &&& (mm_i 1431655765)))).toUInt32 >>> (((mm_i 2) : Int32).toUInt32 &&& Int32.toUInt32 31)).toInt32) &&& (mm_i 858993459))) + ((((((x0 - ((((x0).toUInt32 >>> (((mm_i 1) : Int32).toUInt32 &&& Int32.toUInt32 31)).toInt32) &&& (mm_i 1431655765))) &&& (mm_i 858993459)) + (((((x0 - ((((x0).toUInt32 >>> (((mm_i 1) : Int32).toUInt32 &&& Int32.toUInt32 31)).toInt32) &&& (mm_i 1431655765)))).toUInt32 >>> (((mm_i 2) : Int32).toUInt32 &&& Int32.toUInt32 31)).toInt32) &&& (mm_i 858993459)))).toUInt32 >>> (((mm_i 4) : Int32).toUInt32 &&& Int32.toUInt32 31)).toInt32)) &&& (mm_i 252645135))).toUInt32 >>> (((mm_i 8) : Int32).toUInt32 &&& Int32.toUInt32 31)).toInt32)) + (((((((((x0 - ((((x0).toUInt32 >>> (((mm_i 1) : Int32).toUInt32 &&& Int32.toUInt32 31)).toInt32) &&& (mm_i 1431655765))) &&& (mm_i 858993459)) + (((((x0 - ((((x0).toUInt32 >>> (((mm_i 1) : Int32).toUInt32 &&& Int32.toUInt32 31)).toInt32) &&& (mm_i 1431655765)))).toUInt32 >>> (((mm_i 2) : Int32).toUInt32 &&& Int32.toUInt32 31)).toInt32) &&& (mm_i 858993459))) + ((((((x0 - ((((x0).toUInt32 >>> (((mm_i 1) : Int32).toUInt32 &&& Int32.toUInt32 31)).toInt32) &&& (mm_i 1431655765))) &&& (mm_i 858993459)) + (((((x0 - ((((x0).toUInt32 >>> (((mm_i 1) : Int32).toUInt32 &&& Int32.toUInt32 31)).toInt32) &&& (mm_i 1431655765)))).toUInt32 >>> (((mm_i 2) : Int32).toUInt32 &&& Int32.toUInt32 31)).toInt32) &&& (mm_i 858993459)))).toUInt32 >>> (((mm_i 4) : Int32).toUInt32 &&& Int32.toUInt32 31)).toInt32)) &&& (mm_i 252645135)) + ((((((((x0 - ((((x0).toUInt32 >>> (((mm_i 1) : Int32).toUInt32 &&& Int32.toUInt32 31)).toInt32) &&& (mm_i 1431655765))) &&& (mm_i 858993459)) + (((((x0 - ((((x0).toUInt32 >>> (((mm_i 1) : Int32).toUInt32 &&& Int32.toUInt32 31)).toInt32) &&& (mm_i 1431655765)))).toUInt32 >>> (((mm_i 2) : Int32).toUInt32 &&& Int32.toUInt32 31)).toInt32) &&& (mm_i 858993459))) + ((((((x0 - ((((x0).toUInt32 >>> (((mm_i 1) : Int32).toUInt32 &&& Int32.toUInt32 31)).toInt32) &&& (mm_i 1431655765))) &&& (mm_i 858993459)) + (((((x0 - ((((x0).toUInt32 >>> (((mm_i 1) : Int32).toUInt32 &&& Int32.toUInt32 31)).toInt32) &&& (mm_i 1431655765)))).toUInt32 >>> (((mm_i 2) : Int32).toUInt32 &&& Int32.toUInt32 31)).toInt32) &&& (mm_i 858993459)))).toUInt32 >>> (((mm_i 4) : Int32).toUInt32 &&& Int32.toUInt32 31)).toInt32)) &&& (mm_i 252645135))).toUInt32 >>> (((mm_i 8) : Int32).toUInt32 &&& Int32.toUInt32 31)).toInt32))).toUInt32 >>> (((mm_i 16) : Int32).toUInt32 &&& Int32.toUInt32 31)).toInt32)) &&& (mm_i 63)))), h) := (rfl)
-- Arr.fill
noncomputable def mm_r286_0 (E : mm_E) (cl : mm_F) (n : Nat) (a0 : Nat) (x1 : Int32) (h : mm_H) : mm_R := mm_run E cl mm_m286 n 0 [some (.ref a0), some (.int x1), none, none] [] h
noncomputable def mm_r286_5 (E : mm_E) (cl : mm_F) (n : Nat) (a0 : Nat) (x1 : Int32) (x2 : Int32) (x3 : Int32) (h : mm_H) : mm_R := mm_run E cl mm_m286 n 5 [some (.ref a0), some (.int x1), some (.int x2), some (.int x3)] [] h
set_option maxRecDepth 20000 in
set_option maxHeartbeats 4000000 in
theorem mm_e286_0 (E : mm_E) (cl : mm_F) (n : Nat) (a0 : Nat) (x1 : Int32) (h : mm_H) :
  mm_r286_0 E cl (n + 1) a0 x1 h =
  mm_ln E h a0 fun v_1 =>
  mm_r286_5 E cl n a0 x1 (mm_i 0) v_1 h := (rfl)
set_option maxRecDepth 20000 in
set_option maxHeartbeats 4000000 in
theorem mm_e286_5 (E : mm_E) (cl : mm_F) (n : Nat) (a0 : Nat) (x1 : Int32) (x2 : Int32) (x3 : Int32) (h : mm_H) :
  mm_r286_5 E cl (n + 1) a0 x1 x2 x3 h =
  (mm_br (x3 ≤ x2) (
  some (.inl none, h)) (
  mm_wI h a0 x2 x1 fun h_1 =>
    mm_r286_5 E cl n a0 x1 (x2 + (mm_i 1)) x3 h_1)) := (rfl)
