/-! what is checked of the code tables -/
def mm_hh (j : Nat) : List (Nat × Nat × Nat × Nat) := (([(262, [(0, 9, 12, 13)]), (263, [(0, 9, 12, 18)]), (264, [(0, 10, 13, 18)]), (265, [(0, 10, 13, 18)]), (266, [(0, 12, 15, 18), (0, 12, 19, 13)]), (267, [(0, 12, 15, 18), (0, 12, 19, 13)]), (268, [(0, 10, 13, 18), (0, 10, 17, 13)]), (269, [(0, 10, 13, 18), (0, 10, 17, 13)]), (270, [(0, 10, 13, 18)]), (271, [(0, 9, 12, 18)]), (272, [(0, 10, 13, 18)]), (273, [(0, 9, 12, 13)]), (274, [(0, 10, 13, 18), (0, 10, 17, 13)]), (275, [(0, 12, 15, 18), (0, 12, 19, 13)]), (276, [(0, 10, 13, 18)]), (277, [(0, 12, 15, 18)]), (278, [(0, 10, 13, 18)]), (279, [(0, 9, 12, 13)]), (280, [(0, 10, 13, 18)]), (281, [(0, 9, 12, 18)])] : List (Nat × List (Nat × Nat × Nat × Nat))).find? (fun q => Nat.beq q.1 j)).elim [] (fun q => q.2)
def mm_inL : List Nat := [0, 4, 19, 29, 62, 75, 78, 92, 101, 148]
def mm_ctr (j : Nat) : Bool := mm_inL.any (fun q => Nat.beq q j)
def mm_iok (x : mm_I) (i : Instr) : Bool := match i with
  | .invokevirtual k => (mm_fd mm_ml x.2.1.1 k).elim true (fun q => Nat.beq q.2.2.2 0 && (Nat.beq q.2.1 1001 || (Nat.beq q.2.1 1002 || (Nat.ble (q.2.1 + 1) 1000 && (!(mm_sta q.2.1) && !(mm_ctr q.2.1))))))
  | .invokestatic k => (mm_fd mm_ml x.2.1.1 k).elim true (fun q => (Nat.beq q.2.2.2 0 && (Nat.beq q.2.1 1003 || (Nat.beq q.2.1 1004 || (Nat.beq q.2.1 1005 || (Nat.ble (q.2.1 + 1) 1000 && mm_sta q.2.1))))) || (Nat.beq q.2.2.2 1 && (Nat.ble (q.2.1 + 1) 1000 && (mm_sta q.2.1 && (mm_hh q.2.1).isEmpty))))
  | .invokespecial k => (mm_fd mm_ml x.2.1.1 k).elim true (fun q => (Nat.beq q.2.1 1000 && Nat.beq q.2.2.2 0) || (Nat.ble (q.2.1 + 1) 1000 && (!(mm_sta q.2.1) && (mm_ctr q.2.1 && Nat.beq (mm_x q.2.1).2.1.2.2 0))))
  | _ => true
def mm_dcc (x : mm_I) (c : List (Nat × Instr × Nat)) : Bool := c.all (fun q => decide (decode x.1.2.1 q.1 = .ok (q.2.1, q.2.2)) && ((Nat.beq (mm_lk q.2.1) 0 || Nat.beq (mm_lk q.2.1) q.2.2) && mm_iok x q.2.1))
def mm_dc (x : mm_I) : Bool := x.2.2.2.all (mm_dcc x)
