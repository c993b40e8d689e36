/-! SOUNDNESS, second part: instructions that leave the cells alone (by program: wip/whole/gensnd.py) -/
theorem mm_q_iconst {p : Program} {l : Launch} {e : Env} {R : Room} {s : State} {m : MethodId} {args : Array Value} {below : List Frame} {meth : Method} {c : Code} {D : va_G} {cs : ClassId × ClassId × ClassId} {A : Nat → Prop} {h0 hf : mm_H} {Q : State → Prop} {o : mm_O} {E : mm_E} {cl : mm_F} {x : mm_I}
    (hx : p.tables.exec = Jvm.exec) (hb : c.code = x.1.2.1) {go : mm_K} (hgo : ∀ t L' st' h', go t L' st' h' = some (o, hf) → mm_G p l e R s m args below meth c D cs A h0 hf Q x.1.2.2.1 t L' st' h') {pc len : Nat} {L : mm_L} {st : List Value} {h : mm_H} {v : Int}
    (hd : decode x.1.2.1 pc = .ok (.iconst v, len)) (hl : mm_lk (.iconst v) = len) (hr : mm_stp E cl x go (.iconst v) len pc L st h = some (o, hf)) : mm_G p l e R s m args below meth c D cs A h0 hf Q x.1.2.2.1 pc L st h := by
  have hl : 1 = len := hl
  subst hl
  have g := hgo (pc + 1) L (.int (Int32.ofInt v) :: st) h hr
  exact ⟨g.1, fun H locs cells slots ls hI hL => lv_iconst hx hb hd rfl (g.2 H locs cells slots ls hI hL)⟩

theorem mm_q_bipush {p : Program} {l : Launch} {e : Env} {R : Room} {s : State} {m : MethodId} {args : Array Value} {below : List Frame} {meth : Method} {c : Code} {D : va_G} {cs : ClassId × ClassId × ClassId} {A : Nat → Prop} {h0 hf : mm_H} {Q : State → Prop} {o : mm_O} {E : mm_E} {cl : mm_F} {x : mm_I}
    (hx : p.tables.exec = Jvm.exec) (hb : c.code = x.1.2.1) {go : mm_K} (hgo : ∀ t L' st' h', go t L' st' h' = some (o, hf) → mm_G p l e R s m args below meth c D cs A h0 hf Q x.1.2.2.1 t L' st' h') {pc len : Nat} {L : mm_L} {st : List Value} {h : mm_H} {v : Int}
    (hd : decode x.1.2.1 pc = .ok (.bipush v, len)) (hl : mm_lk (.bipush v) = len) (hr : mm_stp E cl x go (.bipush v) len pc L st h = some (o, hf)) : mm_G p l e R s m args below meth c D cs A h0 hf Q x.1.2.2.1 pc L st h := by
  have hl : 2 = len := hl
  subst hl
  have g := hgo (pc + 2) L (.int (Int8.ofInt v).toInt32 :: st) h hr
  exact ⟨g.1, fun H locs cells slots ls hI hL => lv_bipush hx hb hd rfl (g.2 H locs cells slots ls hI hL)⟩

theorem mm_q_sipush {p : Program} {l : Launch} {e : Env} {R : Room} {s : State} {m : MethodId} {args : Array Value} {below : List Frame} {meth : Method} {c : Code} {D : va_G} {cs : ClassId × ClassId × ClassId} {A : Nat → Prop} {h0 hf : mm_H} {Q : State → Prop} {o : mm_O} {E : mm_E} {cl : mm_F} {x : mm_I}
    (hx : p.tables.exec = Jvm.exec) (hb : c.code = x.1.2.1) {go : mm_K} (hgo : ∀ t L' st' h', go t L' st' h' = some (o, hf) → mm_G p l e R s m args below meth c D cs A h0 hf Q x.1.2.2.1 t L' st' h') {pc len : Nat} {L : mm_L} {st : List Value} {h : mm_H} {v : Int}
    (hd : decode x.1.2.1 pc = .ok (.sipush v, len)) (hl : mm_lk (.sipush v) = len) (hr : mm_stp E cl x go (.sipush v) len pc L st h = some (o, hf)) : mm_G p l e R s m args below meth c D cs A h0 hf Q x.1.2.2.1 pc L st h := by
  have hl : 3 = len := hl
  subst hl
  have g := hgo (pc + 3) L (.int (Int16.ofInt v).toInt32 :: st) h hr
  exact ⟨g.1, fun H locs cells slots ls hI hL => lv_sipush hx hb hd rfl (g.2 H locs cells slots ls hI hL)⟩

theorem mm_q_lconst {p : Program} {l : Launch} {e : Env} {R : Room} {s : State} {m : MethodId} {args : Array Value} {below : List Frame} {meth : Method} {c : Code} {D : va_G} {cs : ClassId × ClassId × ClassId} {A : Nat → Prop} {h0 hf : mm_H} {Q : State → Prop} {o : mm_O} {E : mm_E} {cl : mm_F} {x : mm_I}
    (hx : p.tables.exec = Jvm.exec) (hb : c.code = x.1.2.1) {go : mm_K} (hgo : ∀ t L' st' h', go t L' st' h' = some (o, hf) → mm_G p l e R s m args below meth c D cs A h0 hf Q x.1.2.2.1 t L' st' h') {pc len : Nat} {L : mm_L} {st : List Value} {h : mm_H} {v : Fin 2}
    (hd : decode x.1.2.1 pc = .ok (.lconst v, len)) (hl : mm_lk (.lconst v) = len) (hr : mm_stp E cl x go (.lconst v) len pc L st h = some (o, hf)) : mm_G p l e R s m args below meth c D cs A h0 hf Q x.1.2.2.1 pc L st h := by
  have hl : 1 = len := hl
  subst hl
  have g := hgo (pc + 1) L (.long (Int64.ofNat v.val) :: st) h hr
  exact ⟨g.1, fun H locs cells slots ls hI hL => lv_lconst hx hb hd rfl (g.2 H locs cells slots ls hI hL)⟩

theorem mm_q_iload_n {p : Program} {l : Launch} {e : Env} {R : Room} {s : State} {m : MethodId} {args : Array Value} {below : List Frame} {meth : Method} {c : Code} {D : va_G} {cs : ClassId × ClassId × ClassId} {A : Nat → Prop} {h0 hf : mm_H} {Q : State → Prop} {o : mm_O} {E : mm_E} {cl : mm_F} {x : mm_I}
    (hx : p.tables.exec = Jvm.exec) (hb : c.code = x.1.2.1) {go : mm_K} (hgo : ∀ t L' st' h', go t L' st' h' = some (o, hf) → mm_G p l e R s m args below meth c D cs A h0 hf Q x.1.2.2.1 t L' st' h') {pc len : Nat} {L : mm_L} {st : List Value} {h : mm_H} {k : Fin 4}
    (hd : decode x.1.2.1 pc = .ok (.iload_n k, len)) (hl : mm_lk (.iload_n k) = len) (hr : mm_stp E cl x go (.iload_n k) len pc L st h = some (o, hf)) : mm_G p l e R s m args below meth c D cs A h0 hf Q x.1.2.2.1 pc L st h := by
  have hl : 1 = len := hl
  subst hl
  obtain ⟨v, hv, hr⟩ := mm_ldI_of (show mm_ldI L k.val st (fun s' => go (pc + 1) L s' h) = some (o, hf) from hr)
  have g := hgo _ _ _ _ hr
  exact ⟨g.1, fun H locs cells slots ls hI hL => lv_iload_n hx hb hd rfl (mm_lr_at hL hv) (g.2 H locs cells slots ls hI hL)⟩

theorem mm_q_iload {p : Program} {l : Launch} {e : Env} {R : Room} {s : State} {m : MethodId} {args : Array Value} {below : List Frame} {meth : Method} {c : Code} {D : va_G} {cs : ClassId × ClassId × ClassId} {A : Nat → Prop} {h0 hf : mm_H} {Q : State → Prop} {o : mm_O} {E : mm_E} {cl : mm_F} {x : mm_I}
    (hx : p.tables.exec = Jvm.exec) (hb : c.code = x.1.2.1) {go : mm_K} (hgo : ∀ t L' st' h', go t L' st' h' = some (o, hf) → mm_G p l e R s m args below meth c D cs A h0 hf Q x.1.2.2.1 t L' st' h') {pc len : Nat} {L : mm_L} {st : List Value} {h : mm_H} {k : Nat}
    (hd : decode x.1.2.1 pc = .ok (.iload k, len)) (hl : mm_lk (.iload k) = len) (hr : mm_stp E cl x go (.iload k) len pc L st h = some (o, hf)) : mm_G p l e R s m args below meth c D cs A h0 hf Q x.1.2.2.1 pc L st h := by
  have hl : 2 = len := hl
  subst hl
  obtain ⟨v, hv, hr⟩ := mm_ldI_of (show mm_ldI L k st (fun s' => go (pc + 2) L s' h) = some (o, hf) from hr)
  have g := hgo _ _ _ _ hr
  exact ⟨g.1, fun H locs cells slots ls hI hL => lv_iload hx hb hd (mm_lr_at hL hv) (g.2 H locs cells slots ls hI hL)⟩

theorem mm_q_lload_n {p : Program} {l : Launch} {e : Env} {R : Room} {s : State} {m : MethodId} {args : Array Value} {below : List Frame} {meth : Method} {c : Code} {D : va_G} {cs : ClassId × ClassId × ClassId} {A : Nat → Prop} {h0 hf : mm_H} {Q : State → Prop} {o : mm_O} {E : mm_E} {cl : mm_F} {x : mm_I}
    (hx : p.tables.exec = Jvm.exec) (hb : c.code = x.1.2.1) {go : mm_K} (hgo : ∀ t L' st' h', go t L' st' h' = some (o, hf) → mm_G p l e R s m args below meth c D cs A h0 hf Q x.1.2.2.1 t L' st' h') {pc len : Nat} {L : mm_L} {st : List Value} {h : mm_H} {k : Fin 4}
    (hd : decode x.1.2.1 pc = .ok (.lload_n k, len)) (hl : mm_lk (.lload_n k) = len) (hr : mm_stp E cl x go (.lload_n k) len pc L st h = some (o, hf)) : mm_G p l e R s m args below meth c D cs A h0 hf Q x.1.2.2.1 pc L st h := by
  have hl : 1 = len := hl
  subst hl
  obtain ⟨v, hv, hr⟩ := mm_ldJ_of (show mm_ldJ L k.val st (fun s' => go (pc + 1) L s' h) = some (o, hf) from hr)
  have g := hgo _ _ _ _ hr
  exact ⟨g.1, fun H locs cells slots ls hI hL => lv_lload_n hx hb hd rfl (mm_lr_at hL hv) (g.2 H locs cells slots ls hI hL)⟩

theorem mm_q_lload {p : Program} {l : Launch} {e : Env} {R : Room} {s : State} {m : MethodId} {args : Array Value} {below : List Frame} {meth : Method} {c : Code} {D : va_G} {cs : ClassId × ClassId × ClassId} {A : Nat → Prop} {h0 hf : mm_H} {Q : State → Prop} {o : mm_O} {E : mm_E} {cl : mm_F} {x : mm_I}
    (hx : p.tables.exec = Jvm.exec) (hb : c.code = x.1.2.1) {go : mm_K} (hgo : ∀ t L' st' h', go t L' st' h' = some (o, hf) → mm_G p l e R s m args below meth c D cs A h0 hf Q x.1.2.2.1 t L' st' h') {pc len : Nat} {L : mm_L} {st : List Value} {h : mm_H} {k : Nat}
    (hd : decode x.1.2.1 pc = .ok (.lload k, len)) (hl : mm_lk (.lload k) = len) (hr : mm_stp E cl x go (.lload k) len pc L st h = some (o, hf)) : mm_G p l e R s m args below meth c D cs A h0 hf Q x.1.2.2.1 pc L st h := by
  have hl : 2 = len := hl
  subst hl
  obtain ⟨v, hv, hr⟩ := mm_ldJ_of (show mm_ldJ L k st (fun s' => go (pc + 2) L s' h) = some (o, hf) from hr)
  have g := hgo _ _ _ _ hr
  exact ⟨g.1, fun H locs cells slots ls hI hL => lv_lload hx hb hd (mm_lr_at hL hv) (g.2 H locs cells slots ls hI hL)⟩

theorem mm_q_aload_n {p : Program} {l : Launch} {e : Env} {R : Room} {s : State} {m : MethodId} {args : Array Value} {below : List Frame} {meth : Method} {c : Code} {D : va_G} {cs : ClassId × ClassId × ClassId} {A : Nat → Prop} {h0 hf : mm_H} {Q : State → Prop} {o : mm_O} {E : mm_E} {cl : mm_F} {x : mm_I}
    (hx : p.tables.exec = Jvm.exec) (hb : c.code = x.1.2.1) {go : mm_K} (hgo : ∀ t L' st' h', go t L' st' h' = some (o, hf) → mm_G p l e R s m args below meth c D cs A h0 hf Q x.1.2.2.1 t L' st' h') {pc len : Nat} {L : mm_L} {st : List Value} {h : mm_H} {k : Fin 4}
    (hd : decode x.1.2.1 pc = .ok (.aload_n k, len)) (hl : mm_lk (.aload_n k) = len) (hr : mm_stp E cl x go (.aload_n k) len pc L st h = some (o, hf)) : mm_G p l e R s m args below meth c D cs A h0 hf Q x.1.2.2.1 pc L st h := by
  have hl : 1 = len := hl
  subst hl
  obtain ⟨v, hv, hr⟩ := mm_ldR_of (show mm_ldR L k.val st (fun s' => go (pc + 1) L s' h) = some (o, hf) from hr)
  have g := hgo _ _ _ _ hr
  exact ⟨g.1, fun H locs cells slots ls hI hL => lv_aload_n hx hb hd rfl (mm_lr_at hL hv) (g.2 H locs cells slots ls hI hL)⟩

theorem mm_q_aload {p : Program} {l : Launch} {e : Env} {R : Room} {s : State} {m : MethodId} {args : Array Value} {below : List Frame} {meth : Method} {c : Code} {D : va_G} {cs : ClassId × ClassId × ClassId} {A : Nat → Prop} {h0 hf : mm_H} {Q : State → Prop} {o : mm_O} {E : mm_E} {cl : mm_F} {x : mm_I}
    (hx : p.tables.exec = Jvm.exec) (hb : c.code = x.1.2.1) {go : mm_K} (hgo : ∀ t L' st' h', go t L' st' h' = some (o, hf) → mm_G p l e R s m args below meth c D cs A h0 hf Q x.1.2.2.1 t L' st' h') {pc len : Nat} {L : mm_L} {st : List Value} {h : mm_H} {k : Nat}
    (hd : decode x.1.2.1 pc = .ok (.aload k, len)) (hl : mm_lk (.aload k) = len) (hr : mm_stp E cl x go (.aload k) len pc L st h = some (o, hf)) : mm_G p l e R s m args below meth c D cs A h0 hf Q x.1.2.2.1 pc L st h := by
  have hl : 2 = len := hl
  subst hl
  obtain ⟨v, hv, hr⟩ := mm_ldR_of (show mm_ldR L k st (fun s' => go (pc + 2) L s' h) = some (o, hf) from hr)
  have g := hgo _ _ _ _ hr
  exact ⟨g.1, fun H locs cells slots ls hI hL => lv_aload hx hb hd (mm_lr_at hL hv) (g.2 H locs cells slots ls hI hL)⟩

theorem mm_q_istore_n {p : Program} {l : Launch} {e : Env} {R : Room} {s : State} {m : MethodId} {args : Array Value} {below : List Frame} {meth : Method} {c : Code} {D : va_G} {cs : ClassId × ClassId × ClassId} {A : Nat → Prop} {h0 hf : mm_H} {Q : State → Prop} {o : mm_O} {E : mm_E} {cl : mm_F} {x : mm_I}
    (hx : p.tables.exec = Jvm.exec) (hb : c.code = x.1.2.1) {go : mm_K} (hgo : ∀ t L' st' h', go t L' st' h' = some (o, hf) → mm_G p l e R s m args below meth c D cs A h0 hf Q x.1.2.2.1 t L' st' h') {pc len : Nat} {L : mm_L} {st : List Value} {h : mm_H} {k : Fin 4}
    (hd : decode x.1.2.1 pc = .ok (.istore_n k, len)) (hl : mm_lk (.istore_n k) = len) (hr : mm_stp E cl x go (.istore_n k) len pc L st h = some (o, hf)) : mm_G p l e R s m args below meth c D cs A h0 hf Q x.1.2.2.1 pc L st h := by
  have hl : 1 = len := hl
  subst hl
  obtain ⟨v, r, rfl, hr⟩ := mm_i1_of (show mm_i1 st (fun v r => bif Nat.ble (k.val + 1) L.length then mm_stk k.val L (.int v) (fun L' => go (pc + 1) L' r h) else none) = some (o, hf) from hr)
  obtain ⟨hk, hr⟩ := mm_bif_of hr
  have hk := Nat.le_of_ble_eq_true hk
  rw [mm_stk_eq _ _ _ _ hk] at hr
  have g := hgo _ _ _ _ hr
  exact ⟨g.1, fun H locs cells slots ls hI hL => lv_istore_n hx hb hd rfl (mm_lr_has hL) (by have := hL.2.2.1; omega) rfl (fun ls' h' => g.2 H locs cells slots ls' hI (mm_lr_st1 hL.2.2.1 (by have := hL.2.2.1; omega) h'))⟩

theorem mm_q_istore {p : Program} {l : Launch} {e : Env} {R : Room} {s : State} {m : MethodId} {args : Array Value} {below : List Frame} {meth : Method} {c : Code} {D : va_G} {cs : ClassId × ClassId × ClassId} {A : Nat → Prop} {h0 hf : mm_H} {Q : State → Prop} {o : mm_O} {E : mm_E} {cl : mm_F} {x : mm_I}
    (hx : p.tables.exec = Jvm.exec) (hb : c.code = x.1.2.1) {go : mm_K} (hgo : ∀ t L' st' h', go t L' st' h' = some (o, hf) → mm_G p l e R s m args below meth c D cs A h0 hf Q x.1.2.2.1 t L' st' h') {pc len : Nat} {L : mm_L} {st : List Value} {h : mm_H} {k : Nat}
    (hd : decode x.1.2.1 pc = .ok (.istore k, len)) (hl : mm_lk (.istore k) = len) (hr : mm_stp E cl x go (.istore k) len pc L st h = some (o, hf)) : mm_G p l e R s m args below meth c D cs A h0 hf Q x.1.2.2.1 pc L st h := by
  have hl : 2 = len := hl
  subst hl
  obtain ⟨v, r, rfl, hr⟩ := mm_i1_of (show mm_i1 st (fun v r => bif Nat.ble (k + 1) L.length then mm_stk k L (.int v) (fun L' => go (pc + 2) L' r h) else none) = some (o, hf) from hr)
  obtain ⟨hk, hr⟩ := mm_bif_of hr
  have hk := Nat.le_of_ble_eq_true hk
  rw [mm_stk_eq _ _ _ _ hk] at hr
  have g := hgo _ _ _ _ hr
  exact ⟨g.1, fun H locs cells slots ls hI hL => lv_istore hx hb hd (mm_lr_has hL) (by have := hL.2.2.1; omega) rfl (fun ls' h' => g.2 H locs cells slots ls' hI (mm_lr_st1 hL.2.2.1 (by have := hL.2.2.1; omega) h'))⟩

theorem mm_q_astore_n {p : Program} {l : Launch} {e : Env} {R : Room} {s : State} {m : MethodId} {args : Array Value} {below : List Frame} {meth : Method} {c : Code} {D : va_G} {cs : ClassId × ClassId × ClassId} {A : Nat → Prop} {h0 hf : mm_H} {Q : State → Prop} {o : mm_O} {E : mm_E} {cl : mm_F} {x : mm_I}
    (hx : p.tables.exec = Jvm.exec) (hb : c.code = x.1.2.1) {go : mm_K} (hgo : ∀ t L' st' h', go t L' st' h' = some (o, hf) → mm_G p l e R s m args below meth c D cs A h0 hf Q x.1.2.2.1 t L' st' h') {pc len : Nat} {L : mm_L} {st : List Value} {h : mm_H} {k : Fin 4}
    (hd : decode x.1.2.1 pc = .ok (.astore_n k, len)) (hl : mm_lk (.astore_n k) = len) (hr : mm_stp E cl x go (.astore_n k) len pc L st h = some (o, hf)) : mm_G p l e R s m args below meth c D cs A h0 hf Q x.1.2.2.1 pc L st h := by
  have hl : 1 = len := hl
  subst hl
  obtain ⟨v, r, rfl, hr⟩ := mm_r1_of (show mm_r1 st (fun v r => bif Nat.ble (k.val + 1) L.length then mm_stk k.val L (.ref v) (fun L' => go (pc + 1) L' r h) else none) = some (o, hf) from hr)
  obtain ⟨hk, hr⟩ := mm_bif_of hr
  have hk := Nat.le_of_ble_eq_true hk
  rw [mm_stk_eq _ _ _ _ hk] at hr
  have g := hgo _ _ _ _ hr
  exact ⟨g.1, fun H locs cells slots ls hI hL => lv_astore_n hx hb hd rfl (mm_lr_has hL) (by have := hL.2.2.1; omega) rfl (fun ls' h' => g.2 H locs cells slots ls' hI (mm_lr_st1 hL.2.2.1 (by have := hL.2.2.1; omega) h'))⟩

theorem mm_q_astore {p : Program} {l : Launch} {e : Env} {R : Room} {s : State} {m : MethodId} {args : Array Value} {below : List Frame} {meth : Method} {c : Code} {D : va_G} {cs : ClassId × ClassId × ClassId} {A : Nat → Prop} {h0 hf : mm_H} {Q : State → Prop} {o : mm_O} {E : mm_E} {cl : mm_F} {x : mm_I}
    (hx : p.tables.exec = Jvm.exec) (hb : c.code = x.1.2.1) {go : mm_K} (hgo : ∀ t L' st' h', go t L' st' h' = some (o, hf) → mm_G p l e R s m args below meth c D cs A h0 hf Q x.1.2.2.1 t L' st' h') {pc len : Nat} {L : mm_L} {st : List Value} {h : mm_H} {k : Nat}
    (hd : decode x.1.2.1 pc = .ok (.astore k, len)) (hl : mm_lk (.astore k) = len) (hr : mm_stp E cl x go (.astore k) len pc L st h = some (o, hf)) : mm_G p l e R s m args below meth c D cs A h0 hf Q x.1.2.2.1 pc L st h := by
  have hl : 2 = len := hl
  subst hl
  obtain ⟨v, r, rfl, hr⟩ := mm_r1_of (show mm_r1 st (fun v r => bif Nat.ble (k + 1) L.length then mm_stk k L (.ref v) (fun L' => go (pc + 2) L' r h) else none) = some (o, hf) from hr)
  obtain ⟨hk, hr⟩ := mm_bif_of hr
  have hk := Nat.le_of_ble_eq_true hk
  rw [mm_stk_eq _ _ _ _ hk] at hr
  have g := hgo _ _ _ _ hr
  exact ⟨g.1, fun H locs cells slots ls hI hL => lv_astore hx hb hd (mm_lr_has hL) (by have := hL.2.2.1; omega) rfl (fun ls' h' => g.2 H locs cells slots ls' hI (mm_lr_st1 hL.2.2.1 (by have := hL.2.2.1; omega) h'))⟩

theorem mm_q_lstore_n {p : Program} {l : Launch} {e : Env} {R : Room} {s : State} {m : MethodId} {args : Array Value} {below : List Frame} {meth : Method} {c : Code} {D : va_G} {cs : ClassId × ClassId × ClassId} {A : Nat → Prop} {h0 hf : mm_H} {Q : State → Prop} {o : mm_O} {E : mm_E} {cl : mm_F} {x : mm_I}
    (hx : p.tables.exec = Jvm.exec) (hb : c.code = x.1.2.1) {go : mm_K} (hgo : ∀ t L' st' h', go t L' st' h' = some (o, hf) → mm_G p l e R s m args below meth c D cs A h0 hf Q x.1.2.2.1 t L' st' h') {pc len : Nat} {L : mm_L} {st : List Value} {h : mm_H} {k : Fin 4}
    (hd : decode x.1.2.1 pc = .ok (.lstore_n k, len)) (hl : mm_lk (.lstore_n k) = len) (hr : mm_stp E cl x go (.lstore_n k) len pc L st h = some (o, hf)) : mm_G p l e R s m args below meth c D cs A h0 hf Q x.1.2.2.1 pc L st h := by
  have hl : 1 = len := hl
  subst hl
  obtain ⟨v, r, rfl, hr⟩ := mm_l1_of (show mm_l1 st (fun v r => bif Nat.ble (k.val + 2) L.length then mm_stk2 k.val L (.long v) (fun L' => go (pc + 1) L' r h) else none) = some (o, hf) from hr)
  obtain ⟨hk, hr⟩ := mm_bif_of hr
  have hk := Nat.le_of_ble_eq_true hk
  rw [mm_stk2_eq _ _ _ _ hk] at hr
  have g := hgo _ _ _ _ hr
  exact ⟨g.1, fun H locs cells slots ls hI hL => lv_lstore_n hx hb hd rfl (mm_lr_has hL) (by have := hL.2.2.1; omega) rfl (fun ls' h' => g.2 H locs cells slots ls' hI (mm_lr_st2 hL.2.2.1 (by have := hL.2.2.1; omega) h'))⟩

theorem mm_q_lstore {p : Program} {l : Launch} {e : Env} {R : Room} {s : State} {m : MethodId} {args : Array Value} {below : List Frame} {meth : Method} {c : Code} {D : va_G} {cs : ClassId × ClassId × ClassId} {A : Nat → Prop} {h0 hf : mm_H} {Q : State → Prop} {o : mm_O} {E : mm_E} {cl : mm_F} {x : mm_I}
    (hx : p.tables.exec = Jvm.exec) (hb : c.code = x.1.2.1) {go : mm_K} (hgo : ∀ t L' st' h', go t L' st' h' = some (o, hf) → mm_G p l e R s m args below meth c D cs A h0 hf Q x.1.2.2.1 t L' st' h') {pc len : Nat} {L : mm_L} {st : List Value} {h : mm_H} {k : Nat}
    (hd : decode x.1.2.1 pc = .ok (.lstore k, len)) (hl : mm_lk (.lstore k) = len) (hr : mm_stp E cl x go (.lstore k) len pc L st h = some (o, hf)) : mm_G p l e R s m args below meth c D cs A h0 hf Q x.1.2.2.1 pc L st h := by
  have hl : 2 = len := hl
  subst hl
  obtain ⟨v, r, rfl, hr⟩ := mm_l1_of (show mm_l1 st (fun v r => bif Nat.ble (k + 2) L.length then mm_stk2 k L (.long v) (fun L' => go (pc + 2) L' r h) else none) = some (o, hf) from hr)
  obtain ⟨hk, hr⟩ := mm_bif_of hr
  have hk := Nat.le_of_ble_eq_true hk
  rw [mm_stk2_eq _ _ _ _ hk] at hr
  have g := hgo _ _ _ _ hr
  exact ⟨g.1, fun H locs cells slots ls hI hL => lv_lstore hx hb hd (mm_lr_has hL) (by have := hL.2.2.1; omega) rfl (fun ls' h' => g.2 H locs cells slots ls' hI (mm_lr_st2 hL.2.2.1 (by have := hL.2.2.1; omega) h'))⟩

theorem mm_q_iinc {p : Program} {l : Launch} {e : Env} {R : Room} {s : State} {m : MethodId} {args : Array Value} {below : List Frame} {meth : Method} {c : Code} {D : va_G} {cs : ClassId × ClassId × ClassId} {A : Nat → Prop} {h0 hf : mm_H} {Q : State → Prop} {o : mm_O} {E : mm_E} {cl : mm_F} {x : mm_I}
    (hx : p.tables.exec = Jvm.exec) (hb : c.code = x.1.2.1) {go : mm_K} (hgo : ∀ t L' st' h', go t L' st' h' = some (o, hf) → mm_G p l e R s m args below meth c D cs A h0 hf Q x.1.2.2.1 t L' st' h') {pc len : Nat} {L : mm_L} {st : List Value} {h : mm_H} {k : Nat} {n : Int}
    (hd : decode x.1.2.1 pc = .ok (.iinc k n, len)) (hl : mm_lk (.iinc k n) = len) (hr : mm_stp E cl x go (.iinc k n) len pc L st h = some (o, hf)) : mm_G p l e R s m args below meth c D cs A h0 hf Q x.1.2.2.1 pc L st h := by
  have hl : 3 = len := hl
  subst hl
  obtain ⟨v, hv, hr⟩ := mm_lv_of (show mm_lv L k (fun v => mm_stk k L (.int (v + Int32.ofInt n)) (fun L' => go (pc + 3) L' st h)) = some (o, hf) from hr)
  have hk : k < L.length := (List.getElem?_eq_some_iff.mp hv).1
  rw [mm_stk_eq _ _ _ _ hk] at hr
  have g := hgo _ _ _ _ hr
  refine ⟨g.1, fun H locs cells slots ls hI hL => ?_⟩
  obtain ⟨k', hk'⟩ := List.getElem?_of_mem (mm_lp_mem (q := (k, .int v)) |>.mpr hv)
  exact lv_iinc hx hb hd (mm_lr_has hL) hk' rfl (by have := hL.2.2.1; omega) rfl (fun ls' h' => g.2 H locs cells slots ls' hI (mm_lr_st1 hL.2.2.1 (by have := hL.2.2.1; omega) h'))

theorem mm_q_iadd {p : Program} {l : Launch} {e : Env} {R : Room} {s : State} {m : MethodId} {args : Array Value} {below : List Frame} {meth : Method} {c : Code} {D : va_G} {cs : ClassId × ClassId × ClassId} {A : Nat → Prop} {h0 hf : mm_H} {Q : State → Prop} {o : mm_O} {E : mm_E} {cl : mm_F} {x : mm_I}
    (hx : p.tables.exec = Jvm.exec) (hb : c.code = x.1.2.1) {go : mm_K} (hgo : ∀ t L' st' h', go t L' st' h' = some (o, hf) → mm_G p l e R s m args below meth c D cs A h0 hf Q x.1.2.2.1 t L' st' h') {pc len : Nat} {L : mm_L} {st : List Value} {h : mm_H} 
    (hd : decode x.1.2.1 pc = .ok (.iadd, len)) (hl : mm_lk (.iadd) = len) (hr : mm_stp E cl x go (.iadd) len pc L st h = some (o, hf)) : mm_G p l e R s m args below meth c D cs A h0 hf Q x.1.2.2.1 pc L st h := by
  have hl : 1 = len := hl
  subst hl
  obtain ⟨a, b, t, rfl, hr⟩ := mm_i2_of (show mm_i2 st (fun a b r => go (pc + 1) L (.int (a + b) :: r) h) = some (o, hf) from hr)
  have g := hgo _ _ _ _ hr
  exact ⟨g.1, fun H locs cells slots ls hI hL => lv_iadd hx hb hd (g.2 H locs cells slots ls hI hL)⟩

theorem mm_q_isub {p : Program} {l : Launch} {e : Env} {R : Room} {s : State} {m : MethodId} {args : Array Value} {below : List Frame} {meth : Method} {c : Code} {D : va_G} {cs : ClassId × ClassId × ClassId} {A : Nat → Prop} {h0 hf : mm_H} {Q : State → Prop} {o : mm_O} {E : mm_E} {cl : mm_F} {x : mm_I}
    (hx : p.tables.exec = Jvm.exec) (hb : c.code = x.1.2.1) {go : mm_K} (hgo : ∀ t L' st' h', go t L' st' h' = some (o, hf) → mm_G p l e R s m args below meth c D cs A h0 hf Q x.1.2.2.1 t L' st' h') {pc len : Nat} {L : mm_L} {st : List Value} {h : mm_H} 
    (hd : decode x.1.2.1 pc = .ok (.isub, len)) (hl : mm_lk (.isub) = len) (hr : mm_stp E cl x go (.isub) len pc L st h = some (o, hf)) : mm_G p l e R s m args below meth c D cs A h0 hf Q x.1.2.2.1 pc L st h := by
  have hl : 1 = len := hl
  subst hl
  obtain ⟨a, b, t, rfl, hr⟩ := mm_i2_of (show mm_i2 st (fun a b r => go (pc + 1) L (.int (a - b) :: r) h) = some (o, hf) from hr)
  have g := hgo _ _ _ _ hr
  exact ⟨g.1, fun H locs cells slots ls hI hL => lv_isub hx hb hd (g.2 H locs cells slots ls hI hL)⟩

theorem mm_q_imul {p : Program} {l : Launch} {e : Env} {R : Room} {s : State} {m : MethodId} {args : Array Value} {below : List Frame} {meth : Method} {c : Code} {D : va_G} {cs : ClassId × ClassId × ClassId} {A : Nat → Prop} {h0 hf : mm_H} {Q : State → Prop} {o : mm_O} {E : mm_E} {cl : mm_F} {x : mm_I}
    (hx : p.tables.exec = Jvm.exec) (hb : c.code = x.1.2.1) {go : mm_K} (hgo : ∀ t L' st' h', go t L' st' h' = some (o, hf) → mm_G p l e R s m args below meth c D cs A h0 hf Q x.1.2.2.1 t L' st' h') {pc len : Nat} {L : mm_L} {st : List Value} {h : mm_H} 
    (hd : decode x.1.2.1 pc = .ok (.imul, len)) (hl : mm_lk (.imul) = len) (hr : mm_stp E cl x go (.imul) len pc L st h = some (o, hf)) : mm_G p l e R s m args below meth c D cs A h0 hf Q x.1.2.2.1 pc L st h := by
  have hl : 1 = len := hl
  subst hl
  obtain ⟨a, b, t, rfl, hr⟩ := mm_i2_of (show mm_i2 st (fun a b r => go (pc + 1) L (.int (a * b) :: r) h) = some (o, hf) from hr)
  have g := hgo _ _ _ _ hr
  exact ⟨g.1, fun H locs cells slots ls hI hL => lv_imul hx hb hd (g.2 H locs cells slots ls hI hL)⟩

theorem mm_q_iand {p : Program} {l : Launch} {e : Env} {R : Room} {s : State} {m : MethodId} {args : Array Value} {below : List Frame} {meth : Method} {c : Code} {D : va_G} {cs : ClassId × ClassId × ClassId} {A : Nat → Prop} {h0 hf : mm_H} {Q : State → Prop} {o : mm_O} {E : mm_E} {cl : mm_F} {x : mm_I}
    (hx : p.tables.exec = Jvm.exec) (hb : c.code = x.1.2.1) {go : mm_K} (hgo : ∀ t L' st' h', go t L' st' h' = some (o, hf) → mm_G p l e R s m args below meth c D cs A h0 hf Q x.1.2.2.1 t L' st' h') {pc len : Nat} {L : mm_L} {st : List Value} {h : mm_H} 
    (hd : decode x.1.2.1 pc = .ok (.iand, len)) (hl : mm_lk (.iand) = len) (hr : mm_stp E cl x go (.iand) len pc L st h = some (o, hf)) : mm_G p l e R s m args below meth c D cs A h0 hf Q x.1.2.2.1 pc L st h := by
  have hl : 1 = len := hl
  subst hl
  obtain ⟨a, b, t, rfl, hr⟩ := mm_i2_of (show mm_i2 st (fun a b r => go (pc + 1) L (.int (a &&& b) :: r) h) = some (o, hf) from hr)
  have g := hgo _ _ _ _ hr
  exact ⟨g.1, fun H locs cells slots ls hI hL => lv_iand hx hb hd (g.2 H locs cells slots ls hI hL)⟩

theorem mm_q_ior {p : Program} {l : Launch} {e : Env} {R : Room} {s : State} {m : MethodId} {args : Array Value} {below : List Frame} {meth : Method} {c : Code} {D : va_G} {cs : ClassId × ClassId × ClassId} {A : Nat → Prop} {h0 hf : mm_H} {Q : State → Prop} {o : mm_O} {E : mm_E} {cl : mm_F} {x : mm_I}
    (hx : p.tables.exec = Jvm.exec) (hb : c.code = x.1.2.1) {go : mm_K} (hgo : ∀ t L' st' h', go t L' st' h' = some (o, hf) → mm_G p l e R s m args below meth c D cs A h0 hf Q x.1.2.2.1 t L' st' h') {pc len : Nat} {L : mm_L} {st : List Value} {h : mm_H} 
    (hd : decode x.1.2.1 pc = .ok (.ior, len)) (hl : mm_lk (.ior) = len) (hr : mm_stp E cl x go (.ior) len pc L st h = some (o, hf)) : mm_G p l e R s m args below meth c D cs A h0 hf Q x.1.2.2.1 pc L st h := by
  have hl : 1 = len := hl
  subst hl
  obtain ⟨a, b, t, rfl, hr⟩ := mm_i2_of (show mm_i2 st (fun a b r => go (pc + 1) L (.int (a ||| b) :: r) h) = some (o, hf) from hr)
  have g := hgo _ _ _ _ hr
  exact ⟨g.1, fun H locs cells slots ls hI hL => lv_ior hx hb hd (g.2 H locs cells slots ls hI hL)⟩

theorem mm_q_ixor {p : Program} {l : Launch} {e : Env} {R : Room} {s : State} {m : MethodId} {args : Array Value} {below : List Frame} {meth : Method} {c : Code} {D : va_G} {cs : ClassId × ClassId × ClassId} {A : Nat → Prop} {h0 hf : mm_H} {Q : State → Prop} {o : mm_O} {E : mm_E} {cl : mm_F} {x : mm_I}
    (hx : p.tables.exec = Jvm.exec) (hb : c.code = x.1.2.1) {go : mm_K} (hgo : ∀ t L' st' h', go t L' st' h' = some (o, hf) → mm_G p l e R s m args below meth c D cs A h0 hf Q x.1.2.2.1 t L' st' h') {pc len : Nat} {L : mm_L} {st : List Value} {h : mm_H} 
    (hd : decode x.1.2.1 pc = .ok (.ixor, len)) (hl : mm_lk (.ixor) = len) (hr : mm_stp E cl x go (.ixor) len pc L st h = some (o, hf)) : mm_G p l e R s m args below meth c D cs A h0 hf Q x.1.2.2.1 pc L st h := by
  have hl : 1 = len := hl
  subst hl
  obtain ⟨a, b, t, rfl, hr⟩ := mm_i2_of (show mm_i2 st (fun a b r => go (pc + 1) L (.int (a ^^^ b) :: r) h) = some (o, hf) from hr)
  have g := hgo _ _ _ _ hr
  exact ⟨g.1, fun H locs cells slots ls hI hL => lv_ixor hx hb hd (g.2 H locs cells slots ls hI hL)⟩

theorem mm_q_ishl {p : Program} {l : Launch} {e : Env} {R : Room} {s : State} {m : MethodId} {args : Array Value} {below : List Frame} {meth : Method} {c : Code} {D : va_G} {cs : ClassId × ClassId × ClassId} {A : Nat → Prop} {h0 hf : mm_H} {Q : State → Prop} {o : mm_O} {E : mm_E} {cl : mm_F} {x : mm_I}
    (hx : p.tables.exec = Jvm.exec) (hb : c.code = x.1.2.1) {go : mm_K} (hgo : ∀ t L' st' h', go t L' st' h' = some (o, hf) → mm_G p l e R s m args below meth c D cs A h0 hf Q x.1.2.2.1 t L' st' h') {pc len : Nat} {L : mm_L} {st : List Value} {h : mm_H} 
    (hd : decode x.1.2.1 pc = .ok (.ishl, len)) (hl : mm_lk (.ishl) = len) (hr : mm_stp E cl x go (.ishl) len pc L st h = some (o, hf)) : mm_G p l e R s m args below meth c D cs A h0 hf Q x.1.2.2.1 pc L st h := by
  have hl : 1 = len := hl
  subst hl
  obtain ⟨a, b, t, rfl, hr⟩ := mm_i2_of (show mm_i2 st (fun a b r => go (pc + 1) L (.int (a <<< (b &&& 31)) :: r) h) = some (o, hf) from hr)
  have g := hgo _ _ _ _ hr
  exact ⟨g.1, fun H locs cells slots ls hI hL => lv_ishl hx hb hd (g.2 H locs cells slots ls hI hL)⟩

theorem mm_q_ishr {p : Program} {l : Launch} {e : Env} {R : Room} {s : State} {m : MethodId} {args : Array Value} {below : List Frame} {meth : Method} {c : Code} {D : va_G} {cs : ClassId × ClassId × ClassId} {A : Nat → Prop} {h0 hf : mm_H} {Q : State → Prop} {o : mm_O} {E : mm_E} {cl : mm_F} {x : mm_I}
    (hx : p.tables.exec = Jvm.exec) (hb : c.code = x.1.2.1) {go : mm_K} (hgo : ∀ t L' st' h', go t L' st' h' = some (o, hf) → mm_G p l e R s m args below meth c D cs A h0 hf Q x.1.2.2.1 t L' st' h') {pc len : Nat} {L : mm_L} {st : List Value} {h : mm_H} 
    (hd : decode x.1.2.1 pc = .ok (.ishr, len)) (hl : mm_lk (.ishr) = len) (hr : mm_stp E cl x go (.ishr) len pc L st h = some (o, hf)) : mm_G p l e R s m args below meth c D cs A h0 hf Q x.1.2.2.1 pc L st h := by
  have hl : 1 = len := hl
  subst hl
  obtain ⟨a, b, t, rfl, hr⟩ := mm_i2_of (show mm_i2 st (fun a b r => go (pc + 1) L (.int (a >>> (b &&& 31)) :: r) h) = some (o, hf) from hr)
  have g := hgo _ _ _ _ hr
  exact ⟨g.1, fun H locs cells slots ls hI hL => lv_ishr hx hb hd (g.2 H locs cells slots ls hI hL)⟩

theorem mm_q_iushr {p : Program} {l : Launch} {e : Env} {R : Room} {s : State} {m : MethodId} {args : Array Value} {below : List Frame} {meth : Method} {c : Code} {D : va_G} {cs : ClassId × ClassId × ClassId} {A : Nat → Prop} {h0 hf : mm_H} {Q : State → Prop} {o : mm_O} {E : mm_E} {cl : mm_F} {x : mm_I}
    (hx : p.tables.exec = Jvm.exec) (hb : c.code = x.1.2.1) {go : mm_K} (hgo : ∀ t L' st' h', go t L' st' h' = some (o, hf) → mm_G p l e R s m args below meth c D cs A h0 hf Q x.1.2.2.1 t L' st' h') {pc len : Nat} {L : mm_L} {st : List Value} {h : mm_H} 
    (hd : decode x.1.2.1 pc = .ok (.iushr, len)) (hl : mm_lk (.iushr) = len) (hr : mm_stp E cl x go (.iushr) len pc L st h = some (o, hf)) : mm_G p l e R s m args below meth c D cs A h0 hf Q x.1.2.2.1 pc L st h := by
  have hl : 1 = len := hl
  subst hl
  obtain ⟨a, b, t, rfl, hr⟩ := mm_i2_of (show mm_i2 st (fun a b r => go (pc + 1) L (.int ((a.toUInt32 >>> (b.toUInt32 &&& Int32.toUInt32 31)).toInt32) :: r) h) = some (o, hf) from hr)
  have g := hgo _ _ _ _ hr
  exact ⟨g.1, fun H locs cells slots ls hI hL => lv_iushr hx hb hd rfl (g.2 H locs cells slots ls hI hL)⟩

theorem mm_q_idiv {p : Program} {l : Launch} {e : Env} {R : Room} {s : State} {m : MethodId} {args : Array Value} {below : List Frame} {meth : Method} {c : Code} {D : va_G} {cs : ClassId × ClassId × ClassId} {A : Nat → Prop} {h0 hf : mm_H} {Q : State → Prop} {o : mm_O} {E : mm_E} {cl : mm_F} {x : mm_I}
    (hx : p.tables.exec = Jvm.exec) (hb : c.code = x.1.2.1) {go : mm_K} (hgo : ∀ t L' st' h', go t L' st' h' = some (o, hf) → mm_G p l e R s m args below meth c D cs A h0 hf Q x.1.2.2.1 t L' st' h') {pc len : Nat} {L : mm_L} {st : List Value} {h : mm_H} 
    (hd : decode x.1.2.1 pc = .ok (.idiv, len)) (hl : mm_lk (.idiv) = len) (hr : mm_stp E cl x go (.idiv) len pc L st h = some (o, hf)) : mm_G p l e R s m args below meth c D cs A h0 hf Q x.1.2.2.1 pc L st h := by
  have hl : 1 = len := hl
  subst hl
  obtain ⟨a, b, t, rfl, hr⟩ := mm_i2_of (show mm_i2 st (fun a b r => mm_nz b (go (pc + 1) L (.int (a / b) :: r) h)) = some (o, hf) from hr)
  rcases mm_br_of (show mm_br (b = 0) none _ = _ from hr) with ⟨-, hr⟩ | ⟨hn, hr⟩
  · cases hr
  have g := hgo _ _ _ _ hr
  exact ⟨g.1, fun H locs cells slots ls hI hL => lv_idiv hx hb hd hn (g.2 H locs cells slots ls hI hL)⟩

theorem mm_q_irem {p : Program} {l : Launch} {e : Env} {R : Room} {s : State} {m : MethodId} {args : Array Value} {below : List Frame} {meth : Method} {c : Code} {D : va_G} {cs : ClassId × ClassId × ClassId} {A : Nat → Prop} {h0 hf : mm_H} {Q : State → Prop} {o : mm_O} {E : mm_E} {cl : mm_F} {x : mm_I}
    (hx : p.tables.exec = Jvm.exec) (hb : c.code = x.1.2.1) {go : mm_K} (hgo : ∀ t L' st' h', go t L' st' h' = some (o, hf) → mm_G p l e R s m args below meth c D cs A h0 hf Q x.1.2.2.1 t L' st' h') {pc len : Nat} {L : mm_L} {st : List Value} {h : mm_H} 
    (hd : decode x.1.2.1 pc = .ok (.irem, len)) (hl : mm_lk (.irem) = len) (hr : mm_stp E cl x go (.irem) len pc L st h = some (o, hf)) : mm_G p l e R s m args below meth c D cs A h0 hf Q x.1.2.2.1 pc L st h := by
  have hl : 1 = len := hl
  subst hl
  obtain ⟨a, b, t, rfl, hr⟩ := mm_i2_of (show mm_i2 st (fun a b r => mm_nz b (go (pc + 1) L (.int (a - a / b * b) :: r) h)) = some (o, hf) from hr)
  rcases mm_br_of (show mm_br (b = 0) none _ = _ from hr) with ⟨-, hr⟩ | ⟨hn, hr⟩
  · cases hr
  have g := hgo _ _ _ _ hr
  exact ⟨g.1, fun H locs cells slots ls hI hL => lv_irem hx hb hd hn (g.2 H locs cells slots ls hI hL)⟩

theorem mm_q_ineg {p : Program} {l : Launch} {e : Env} {R : Room} {s : State} {m : MethodId} {args : Array Value} {below : List Frame} {meth : Method} {c : Code} {D : va_G} {cs : ClassId × ClassId × ClassId} {A : Nat → Prop} {h0 hf : mm_H} {Q : State → Prop} {o : mm_O} {E : mm_E} {cl : mm_F} {x : mm_I}
    (hx : p.tables.exec = Jvm.exec) (hb : c.code = x.1.2.1) {go : mm_K} (hgo : ∀ t L' st' h', go t L' st' h' = some (o, hf) → mm_G p l e R s m args below meth c D cs A h0 hf Q x.1.2.2.1 t L' st' h') {pc len : Nat} {L : mm_L} {st : List Value} {h : mm_H} 
    (hd : decode x.1.2.1 pc = .ok (.ineg, len)) (hl : mm_lk (.ineg) = len) (hr : mm_stp E cl x go (.ineg) len pc L st h = some (o, hf)) : mm_G p l e R s m args below meth c D cs A h0 hf Q x.1.2.2.1 pc L st h := by
  have hl : 1 = len := hl
  subst hl
  obtain ⟨a, t, rfl, hr⟩ := mm_i1_of (show mm_i1 st (fun a r => go (pc + 1) L (.int (-a) :: r) h) = some (o, hf) from hr)
  have g := hgo _ _ _ _ hr
  exact ⟨g.1, fun H locs cells slots ls hI hL => lv_ineg hx hb hd (g.2 H locs cells slots ls hI hL)⟩

theorem mm_q_ladd {p : Program} {l : Launch} {e : Env} {R : Room} {s : State} {m : MethodId} {args : Array Value} {below : List Frame} {meth : Method} {c : Code} {D : va_G} {cs : ClassId × ClassId × ClassId} {A : Nat → Prop} {h0 hf : mm_H} {Q : State → Prop} {o : mm_O} {E : mm_E} {cl : mm_F} {x : mm_I}
    (hx : p.tables.exec = Jvm.exec) (hb : c.code = x.1.2.1) {go : mm_K} (hgo : ∀ t L' st' h', go t L' st' h' = some (o, hf) → mm_G p l e R s m args below meth c D cs A h0 hf Q x.1.2.2.1 t L' st' h') {pc len : Nat} {L : mm_L} {st : List Value} {h : mm_H} 
    (hd : decode x.1.2.1 pc = .ok (.ladd, len)) (hl : mm_lk (.ladd) = len) (hr : mm_stp E cl x go (.ladd) len pc L st h = some (o, hf)) : mm_G p l e R s m args below meth c D cs A h0 hf Q x.1.2.2.1 pc L st h := by
  have hl : 1 = len := hl
  subst hl
  obtain ⟨a, b, t, rfl, hr⟩ := mm_j2_of (show mm_j2 st (fun a b r => go (pc + 1) L (.long (a + b) :: r) h) = some (o, hf) from hr)
  have g := hgo _ _ _ _ hr
  exact ⟨g.1, fun H locs cells slots ls hI hL => lv_ladd hx hb hd (g.2 H locs cells slots ls hI hL)⟩

theorem mm_q_lmul {p : Program} {l : Launch} {e : Env} {R : Room} {s : State} {m : MethodId} {args : Array Value} {below : List Frame} {meth : Method} {c : Code} {D : va_G} {cs : ClassId × ClassId × ClassId} {A : Nat → Prop} {h0 hf : mm_H} {Q : State → Prop} {o : mm_O} {E : mm_E} {cl : mm_F} {x : mm_I}
    (hx : p.tables.exec = Jvm.exec) (hb : c.code = x.1.2.1) {go : mm_K} (hgo : ∀ t L' st' h', go t L' st' h' = some (o, hf) → mm_G p l e R s m args below meth c D cs A h0 hf Q x.1.2.2.1 t L' st' h') {pc len : Nat} {L : mm_L} {st : List Value} {h : mm_H} 
    (hd : decode x.1.2.1 pc = .ok (.lmul, len)) (hl : mm_lk (.lmul) = len) (hr : mm_stp E cl x go (.lmul) len pc L st h = some (o, hf)) : mm_G p l e R s m args below meth c D cs A h0 hf Q x.1.2.2.1 pc L st h := by
  have hl : 1 = len := hl
  subst hl
  obtain ⟨a, b, t, rfl, hr⟩ := mm_j2_of (show mm_j2 st (fun a b r => go (pc + 1) L (.long (a * b) :: r) h) = some (o, hf) from hr)
  have g := hgo _ _ _ _ hr
  exact ⟨g.1, fun H locs cells slots ls hI hL => lv_lmul hx hb hd (g.2 H locs cells slots ls hI hL)⟩

theorem mm_q_land {p : Program} {l : Launch} {e : Env} {R : Room} {s : State} {m : MethodId} {args : Array Value} {below : List Frame} {meth : Method} {c : Code} {D : va_G} {cs : ClassId × ClassId × ClassId} {A : Nat → Prop} {h0 hf : mm_H} {Q : State → Prop} {o : mm_O} {E : mm_E} {cl : mm_F} {x : mm_I}
    (hx : p.tables.exec = Jvm.exec) (hb : c.code = x.1.2.1) {go : mm_K} (hgo : ∀ t L' st' h', go t L' st' h' = some (o, hf) → mm_G p l e R s m args below meth c D cs A h0 hf Q x.1.2.2.1 t L' st' h') {pc len : Nat} {L : mm_L} {st : List Value} {h : mm_H} 
    (hd : decode x.1.2.1 pc = .ok (.land, len)) (hl : mm_lk (.land) = len) (hr : mm_stp E cl x go (.land) len pc L st h = some (o, hf)) : mm_G p l e R s m args below meth c D cs A h0 hf Q x.1.2.2.1 pc L st h := by
  have hl : 1 = len := hl
  subst hl
  obtain ⟨a, b, t, rfl, hr⟩ := mm_j2_of (show mm_j2 st (fun a b r => go (pc + 1) L (.long (a &&& b) :: r) h) = some (o, hf) from hr)
  have g := hgo _ _ _ _ hr
  exact ⟨g.1, fun H locs cells slots ls hI hL => lv_land hx hb hd (g.2 H locs cells slots ls hI hL)⟩

theorem mm_q_ldiv {p : Program} {l : Launch} {e : Env} {R : Room} {s : State} {m : MethodId} {args : Array Value} {below : List Frame} {meth : Method} {c : Code} {D : va_G} {cs : ClassId × ClassId × ClassId} {A : Nat → Prop} {h0 hf : mm_H} {Q : State → Prop} {o : mm_O} {E : mm_E} {cl : mm_F} {x : mm_I}
    (hx : p.tables.exec = Jvm.exec) (hb : c.code = x.1.2.1) {go : mm_K} (hgo : ∀ t L' st' h', go t L' st' h' = some (o, hf) → mm_G p l e R s m args below meth c D cs A h0 hf Q x.1.2.2.1 t L' st' h') {pc len : Nat} {L : mm_L} {st : List Value} {h : mm_H} 
    (hd : decode x.1.2.1 pc = .ok (.ldiv, len)) (hl : mm_lk (.ldiv) = len) (hr : mm_stp E cl x go (.ldiv) len pc L st h = some (o, hf)) : mm_G p l e R s m args below meth c D cs A h0 hf Q x.1.2.2.1 pc L st h := by
  have hl : 1 = len := hl
  subst hl
  obtain ⟨a, b, t, rfl, hr⟩ := mm_j2_of (show mm_j2 st (fun a b r => mm_nzj b (go (pc + 1) L (.long (a / b) :: r) h)) = some (o, hf) from hr)
  rcases mm_br_of (show mm_br (b = 0) none _ = _ from hr) with ⟨-, hr⟩ | ⟨hn, hr⟩
  · cases hr
  have g := hgo _ _ _ _ hr
  exact ⟨g.1, fun H locs cells slots ls hI hL => lv_ldiv hx hb hd hn (g.2 H locs cells slots ls hI hL)⟩

theorem mm_q_lshl {p : Program} {l : Launch} {e : Env} {R : Room} {s : State} {m : MethodId} {args : Array Value} {below : List Frame} {meth : Method} {c : Code} {D : va_G} {cs : ClassId × ClassId × ClassId} {A : Nat → Prop} {h0 hf : mm_H} {Q : State → Prop} {o : mm_O} {E : mm_E} {cl : mm_F} {x : mm_I}
    (hx : p.tables.exec = Jvm.exec) (hb : c.code = x.1.2.1) {go : mm_K} (hgo : ∀ t L' st' h', go t L' st' h' = some (o, hf) → mm_G p l e R s m args below meth c D cs A h0 hf Q x.1.2.2.1 t L' st' h') {pc len : Nat} {L : mm_L} {st : List Value} {h : mm_H} 
    (hd : decode x.1.2.1 pc = .ok (.lshl, len)) (hl : mm_lk (.lshl) = len) (hr : mm_stp E cl x go (.lshl) len pc L st h = some (o, hf)) : mm_G p l e R s m args below meth c D cs A h0 hf Q x.1.2.2.1 pc L st h := by
  have hl : 1 = len := hl
  subst hl
  obtain ⟨b, a, r, rfl, hr⟩ := mm_il_of (show mm_il st (fun b a r => go (pc + 1) L (.long (a <<< (b.toInt64 &&& 63)) :: r) h) = some (o, hf) from hr)
  have g := hgo _ _ _ _ hr
  exact ⟨g.1, fun H locs cells slots ls hI hL => lv_lshl hx hb hd rfl (g.2 H locs cells slots ls hI hL)⟩

theorem mm_q_lshr {p : Program} {l : Launch} {e : Env} {R : Room} {s : State} {m : MethodId} {args : Array Value} {below : List Frame} {meth : Method} {c : Code} {D : va_G} {cs : ClassId × ClassId × ClassId} {A : Nat → Prop} {h0 hf : mm_H} {Q : State → Prop} {o : mm_O} {E : mm_E} {cl : mm_F} {x : mm_I}
    (hx : p.tables.exec = Jvm.exec) (hb : c.code = x.1.2.1) {go : mm_K} (hgo : ∀ t L' st' h', go t L' st' h' = some (o, hf) → mm_G p l e R s m args below meth c D cs A h0 hf Q x.1.2.2.1 t L' st' h') {pc len : Nat} {L : mm_L} {st : List Value} {h : mm_H} 
    (hd : decode x.1.2.1 pc = .ok (.lshr, len)) (hl : mm_lk (.lshr) = len) (hr : mm_stp E cl x go (.lshr) len pc L st h = some (o, hf)) : mm_G p l e R s m args below meth c D cs A h0 hf Q x.1.2.2.1 pc L st h := by
  have hl : 1 = len := hl
  subst hl
  obtain ⟨b, a, r, rfl, hr⟩ := mm_il_of (show mm_il st (fun b a r => go (pc + 1) L (.long (a >>> (b.toInt64 &&& 63)) :: r) h) = some (o, hf) from hr)
  have g := hgo _ _ _ _ hr
  exact ⟨g.1, fun H locs cells slots ls hI hL => lv_lshr hx hb hd rfl (g.2 H locs cells slots ls hI hL)⟩

theorem mm_q_lcmp {p : Program} {l : Launch} {e : Env} {R : Room} {s : State} {m : MethodId} {args : Array Value} {below : List Frame} {meth : Method} {c : Code} {D : va_G} {cs : ClassId × ClassId × ClassId} {A : Nat → Prop} {h0 hf : mm_H} {Q : State → Prop} {o : mm_O} {E : mm_E} {cl : mm_F} {x : mm_I}
    (hx : p.tables.exec = Jvm.exec) (hb : c.code = x.1.2.1) {go : mm_K} (hgo : ∀ t L' st' h', go t L' st' h' = some (o, hf) → mm_G p l e R s m args below meth c D cs A h0 hf Q x.1.2.2.1 t L' st' h') {pc len : Nat} {L : mm_L} {st : List Value} {h : mm_H} 
    (hd : decode x.1.2.1 pc = .ok (.lcmp, len)) (hl : mm_lk (.lcmp) = len) (hr : mm_stp E cl x go (.lcmp) len pc L st h = some (o, hf)) : mm_G p l e R s m args below meth c D cs A h0 hf Q x.1.2.2.1 pc L st h := by
  have hl : 1 = len := hl
  subst hl
  obtain ⟨a, b, t, rfl, hr⟩ := mm_j2_of (show mm_j2 st (fun a b r => go (pc + 1) L (.int (lg_cmp a b) :: r) h) = some (o, hf) from hr)
  have g := hgo _ _ _ _ hr
  exact ⟨g.1, fun H locs cells slots ls hI hL => W.lcmp hx hb hd (g.2 H locs cells slots ls hI hL)⟩

theorem mm_q_i2l {p : Program} {l : Launch} {e : Env} {R : Room} {s : State} {m : MethodId} {args : Array Value} {below : List Frame} {meth : Method} {c : Code} {D : va_G} {cs : ClassId × ClassId × ClassId} {A : Nat → Prop} {h0 hf : mm_H} {Q : State → Prop} {o : mm_O} {E : mm_E} {cl : mm_F} {x : mm_I}
    (hx : p.tables.exec = Jvm.exec) (hb : c.code = x.1.2.1) {go : mm_K} (hgo : ∀ t L' st' h', go t L' st' h' = some (o, hf) → mm_G p l e R s m args below meth c D cs A h0 hf Q x.1.2.2.1 t L' st' h') {pc len : Nat} {L : mm_L} {st : List Value} {h : mm_H} 
    (hd : decode x.1.2.1 pc = .ok (.i2l, len)) (hl : mm_lk (.i2l) = len) (hr : mm_stp E cl x go (.i2l) len pc L st h = some (o, hf)) : mm_G p l e R s m args below meth c D cs A h0 hf Q x.1.2.2.1 pc L st h := by
  have hl : 1 = len := hl
  subst hl
  obtain ⟨a, t, rfl, hr⟩ := mm_i1_of (show mm_i1 st (fun a r => go (pc + 1) L (.long a.toInt64 :: r) h) = some (o, hf) from hr)
  have g := hgo _ _ _ _ hr
  exact ⟨g.1, fun H locs cells slots ls hI hL => lv_i2l hx hb hd rfl (g.2 H locs cells slots ls hI hL)⟩

theorem mm_q_l2i {p : Program} {l : Launch} {e : Env} {R : Room} {s : State} {m : MethodId} {args : Array Value} {below : List Frame} {meth : Method} {c : Code} {D : va_G} {cs : ClassId × ClassId × ClassId} {A : Nat → Prop} {h0 hf : mm_H} {Q : State → Prop} {o : mm_O} {E : mm_E} {cl : mm_F} {x : mm_I}
    (hx : p.tables.exec = Jvm.exec) (hb : c.code = x.1.2.1) {go : mm_K} (hgo : ∀ t L' st' h', go t L' st' h' = some (o, hf) → mm_G p l e R s m args below meth c D cs A h0 hf Q x.1.2.2.1 t L' st' h') {pc len : Nat} {L : mm_L} {st : List Value} {h : mm_H} 
    (hd : decode x.1.2.1 pc = .ok (.l2i, len)) (hl : mm_lk (.l2i) = len) (hr : mm_stp E cl x go (.l2i) len pc L st h = some (o, hf)) : mm_G p l e R s m args below meth c D cs A h0 hf Q x.1.2.2.1 pc L st h := by
  have hl : 1 = len := hl
  subst hl
  obtain ⟨a, r, rfl, hr⟩ := mm_l1_of (show mm_l1 st (fun a r => go (pc + 1) L (.int a.toInt32 :: r) h) = some (o, hf) from hr)
  have g := hgo _ _ _ _ hr
  exact ⟨g.1, fun H locs cells slots ls hI hL => lv_l2i hx hb hd rfl (g.2 H locs cells slots ls hI hL)⟩

theorem mm_q_dup {p : Program} {l : Launch} {e : Env} {R : Room} {s : State} {m : MethodId} {args : Array Value} {below : List Frame} {meth : Method} {c : Code} {D : va_G} {cs : ClassId × ClassId × ClassId} {A : Nat → Prop} {h0 hf : mm_H} {Q : State → Prop} {o : mm_O} {E : mm_E} {cl : mm_F} {x : mm_I}
    (hx : p.tables.exec = Jvm.exec) (hb : c.code = x.1.2.1) {go : mm_K} (hgo : ∀ t L' st' h', go t L' st' h' = some (o, hf) → mm_G p l e R s m args below meth c D cs A h0 hf Q x.1.2.2.1 t L' st' h') {pc len : Nat} {L : mm_L} {st : List Value} {h : mm_H} 
    (hd : decode x.1.2.1 pc = .ok (.dup, len)) (hl : mm_lk (.dup) = len) (hr : mm_stp E cl x go (.dup) len pc L st h = some (o, hf)) : mm_G p l e R s m args below meth c D cs A h0 hf Q x.1.2.2.1 pc L st h := by
  have hl : 1 = len := hl
  subst hl
  obtain ⟨v, r, rfl, hv, hr⟩ := mm_dp_of (show mm_dp st (fun s' => go (pc + 1) L s' h) = some (o, hf) from hr)
  have g := hgo _ _ _ _ hr
  exact ⟨g.1, fun H locs cells slots ls hI hL => lv_dup hx hb hd hv (g.2 H locs cells slots ls hI hL)⟩

theorem mm_q_dup2 {p : Program} {l : Launch} {e : Env} {R : Room} {s : State} {m : MethodId} {args : Array Value} {below : List Frame} {meth : Method} {c : Code} {D : va_G} {cs : ClassId × ClassId × ClassId} {A : Nat → Prop} {h0 hf : mm_H} {Q : State → Prop} {o : mm_O} {E : mm_E} {cl : mm_F} {x : mm_I}
    (hx : p.tables.exec = Jvm.exec) (hb : c.code = x.1.2.1) {go : mm_K} (hgo : ∀ t L' st' h', go t L' st' h' = some (o, hf) → mm_G p l e R s m args below meth c D cs A h0 hf Q x.1.2.2.1 t L' st' h') {pc len : Nat} {L : mm_L} {st : List Value} {h : mm_H} 
    (hd : decode x.1.2.1 pc = .ok (.dup2, len)) (hl : mm_lk (.dup2) = len) (hr : mm_stp E cl x go (.dup2) len pc L st h = some (o, hf)) : mm_G p l e R s m args below meth c D cs A h0 hf Q x.1.2.2.1 pc L st h := by
  have hl : 1 = len := hl
  subst hl
  obtain ⟨v, w, r, rfl, hv, hw, hr⟩ := mm_d2_of (show mm_d2 st (fun s' => go (pc + 1) L s' h) = some (o, hf) from hr)
  have g := hgo _ _ _ _ hr
  exact ⟨g.1, fun H locs cells slots ls hI hL => lv_dup2_11 hx hb hd hv hw (g.2 H locs cells slots ls hI hL)⟩

theorem mm_q_pop {p : Program} {l : Launch} {e : Env} {R : Room} {s : State} {m : MethodId} {args : Array Value} {below : List Frame} {meth : Method} {c : Code} {D : va_G} {cs : ClassId × ClassId × ClassId} {A : Nat → Prop} {h0 hf : mm_H} {Q : State → Prop} {o : mm_O} {E : mm_E} {cl : mm_F} {x : mm_I}
    (hx : p.tables.exec = Jvm.exec) (hb : c.code = x.1.2.1) {go : mm_K} (hgo : ∀ t L' st' h', go t L' st' h' = some (o, hf) → mm_G p l e R s m args below meth c D cs A h0 hf Q x.1.2.2.1 t L' st' h') {pc len : Nat} {L : mm_L} {st : List Value} {h : mm_H} 
    (hd : decode x.1.2.1 pc = .ok (.pop, len)) (hl : mm_lk (.pop) = len) (hr : mm_stp E cl x go (.pop) len pc L st h = some (o, hf)) : mm_G p l e R s m args below meth c D cs A h0 hf Q x.1.2.2.1 pc L st h := by
  have hl : 1 = len := hl
  subst hl
  obtain ⟨a, r, rfl, hr⟩ := mm_i1_of (show mm_i1 st (fun _ r => go (pc + 1) L r h) = some (o, hf) from hr)
  have g := hgo _ _ _ _ hr
  exact ⟨g.1, fun H locs cells slots ls hI hL => lv_pop hx hb hd rfl (g.2 H locs cells slots ls hI hL)⟩

theorem mm_q_goto {p : Program} {l : Launch} {e : Env} {R : Room} {s : State} {m : MethodId} {args : Array Value} {below : List Frame} {meth : Method} {c : Code} {D : va_G} {cs : ClassId × ClassId × ClassId} {A : Nat → Prop} {h0 hf : mm_H} {Q : State → Prop} {o : mm_O} {E : mm_E} {cl : mm_F} {x : mm_I}
    (hx : p.tables.exec = Jvm.exec) (hb : c.code = x.1.2.1) {go : mm_K} (hgo : ∀ t L' st' h', go t L' st' h' = some (o, hf) → mm_G p l e R s m args below meth c D cs A h0 hf Q x.1.2.2.1 t L' st' h') {pc len : Nat} {L : mm_L} {st : List Value} {h : mm_H} {off : Int}
    (hd : decode x.1.2.1 pc = .ok (.goto off, len)) (hl : mm_lk (.goto off) = len) (hr : mm_stp E cl x go (.goto off) len pc L st h = some (o, hf)) : mm_G p l e R s m args below meth c D cs A h0 hf Q x.1.2.2.1 pc L st h := by
  have hl : 3 = len := hl
  subst hl
  obtain ⟨t, ht, hr⟩ := mm_tg_of (show mm_tg pc off (fun t => go t L st h) = some (o, hf) from hr)
  have g := hgo _ _ _ _ hr
  exact ⟨g.1, fun H locs cells slots ls hI hL => lv_goto hx hb hd ht (g.2 H locs cells slots ls hI hL)⟩

theorem mm_q_if_icmp {p : Program} {l : Launch} {e : Env} {R : Room} {s : State} {m : MethodId} {args : Array Value} {below : List Frame} {meth : Method} {c : Code} {D : va_G} {cs : ClassId × ClassId × ClassId} {A : Nat → Prop} {h0 hf : mm_H} {Q : State → Prop} {o : mm_O} {E : mm_E} {cl : mm_F} {x : mm_I}
    (hx : p.tables.exec = Jvm.exec) (hb : c.code = x.1.2.1) {go : mm_K} (hgo : ∀ t L' st' h', go t L' st' h' = some (o, hf) → mm_G p l e R s m args below meth c D cs A h0 hf Q x.1.2.2.1 t L' st' h') {pc len : Nat} {L : mm_L} {st : List Value} {h : mm_H} {cd : ClassFile.Cond} {off : Int}
    (hd : decode x.1.2.1 pc = .ok (.if_icmp cd off, len)) (hl : mm_lk (.if_icmp cd off) = len) (hr : mm_stp E cl x go (.if_icmp cd off) len pc L st h = some (o, hf)) : mm_G p l e R s m args below meth c D cs A h0 hf Q x.1.2.2.1 pc L st h := by
  have hl : 3 = len := hl
  subst hl
  obtain ⟨a, b, r, rfl, hr⟩ := mm_i2_of (show mm_i2 st (fun a b r => mm_tg pc off (fun t => mm_cmp cd a b (go t L r h) (go (pc + 3) L r h))) = some (o, hf) from hr)
  obtain ⟨t, ht, hr⟩ := mm_tg_of hr
  cases cd with
  | eq =>
    rcases mm_br_of (show mm_br (a = b) _ _ = _ from hr) with ⟨hc, hr⟩ | ⟨hc, hr⟩
    · have g := hgo _ _ _ _ hr
      exact ⟨g.1, fun H locs cells slots ls hI hL => lv_icmp_eq hx hb hd ht (fun _ => g.2 H locs cells slots ls hI hL) (fun z => absurd hc z)⟩
    · have g := hgo _ _ _ _ hr
      exact ⟨g.1, fun H locs cells slots ls hI hL => lv_icmp_eq hx hb hd ht (fun z => absurd z hc) (fun _ => g.2 H locs cells slots ls hI hL)⟩
  | ne =>
    rcases mm_br_of (show mm_br (a = b) _ _ = _ from hr) with ⟨hc, hr⟩ | ⟨hc, hr⟩
    · have g := hgo _ _ _ _ hr
      exact ⟨g.1, fun H locs cells slots ls hI hL => lv_icmp_ne hx hb hd ht (fun z => absurd hc z) (fun _ => g.2 H locs cells slots ls hI hL)⟩
    · have g := hgo _ _ _ _ hr
      exact ⟨g.1, fun H locs cells slots ls hI hL => lv_icmp_ne hx hb hd ht (fun _ => g.2 H locs cells slots ls hI hL) (fun z => absurd z hc)⟩
  | lt =>
    rcases mm_br_of (show mm_br (a < b) _ _ = _ from hr) with ⟨hc, hr⟩ | ⟨hc, hr⟩
    · have g := hgo _ _ _ _ hr
      exact ⟨g.1, fun H locs cells slots ls hI hL => lv_icmp_lt hx hb hd ht (fun _ => g.2 H locs cells slots ls hI hL) (fun z => absurd hc z)⟩
    · have g := hgo _ _ _ _ hr
      exact ⟨g.1, fun H locs cells slots ls hI hL => lv_icmp_lt hx hb hd ht (fun z => absurd z hc) (fun _ => g.2 H locs cells slots ls hI hL)⟩
  | ge =>
    rcases mm_br_of (show mm_br (b ≤ a) _ _ = _ from hr) with ⟨hc, hr⟩ | ⟨hc, hr⟩
    · have g := hgo _ _ _ _ hr
      exact ⟨g.1, fun H locs cells slots ls hI hL => lv_icmp_ge hx hb hd ht (fun _ => g.2 H locs cells slots ls hI hL) (fun z => absurd hc z)⟩
    · have g := hgo _ _ _ _ hr
      exact ⟨g.1, fun H locs cells slots ls hI hL => lv_icmp_ge hx hb hd ht (fun z => absurd z hc) (fun _ => g.2 H locs cells slots ls hI hL)⟩
  | gt =>
    rcases mm_br_of (show mm_br (b < a) _ _ = _ from hr) with ⟨hc, hr⟩ | ⟨hc, hr⟩
    · have g := hgo _ _ _ _ hr
      exact ⟨g.1, fun H locs cells slots ls hI hL => lv_icmp_gt hx hb hd ht (fun _ => g.2 H locs cells slots ls hI hL) (fun z => absurd hc z)⟩
    · have g := hgo _ _ _ _ hr
      exact ⟨g.1, fun H locs cells slots ls hI hL => lv_icmp_gt hx hb hd ht (fun z => absurd z hc) (fun _ => g.2 H locs cells slots ls hI hL)⟩
  | le =>
    rcases mm_br_of (show mm_br (a ≤ b) _ _ = _ from hr) with ⟨hc, hr⟩ | ⟨hc, hr⟩
    · have g := hgo _ _ _ _ hr
      exact ⟨g.1, fun H locs cells slots ls hI hL => lv_icmp_le hx hb hd ht (fun _ => g.2 H locs cells slots ls hI hL) (fun z => absurd hc z)⟩
    · have g := hgo _ _ _ _ hr
      exact ⟨g.1, fun H locs cells slots ls hI hL => lv_icmp_le hx hb hd ht (fun z => absurd z hc) (fun _ => g.2 H locs cells slots ls hI hL)⟩

theorem mm_q_ifCond {p : Program} {l : Launch} {e : Env} {R : Room} {s : State} {m : MethodId} {args : Array Value} {below : List Frame} {meth : Method} {c : Code} {D : va_G} {cs : ClassId × ClassId × ClassId} {A : Nat → Prop} {h0 hf : mm_H} {Q : State → Prop} {o : mm_O} {E : mm_E} {cl : mm_F} {x : mm_I}
    (hx : p.tables.exec = Jvm.exec) (hb : c.code = x.1.2.1) {go : mm_K} (hgo : ∀ t L' st' h', go t L' st' h' = some (o, hf) → mm_G p l e R s m args below meth c D cs A h0 hf Q x.1.2.2.1 t L' st' h') {pc len : Nat} {L : mm_L} {st : List Value} {h : mm_H} {cd : ClassFile.Cond} {off : Int}
    (hd : decode x.1.2.1 pc = .ok (.ifCond cd off, len)) (hl : mm_lk (.ifCond cd off) = len) (hr : mm_stp E cl x go (.ifCond cd off) len pc L st h = some (o, hf)) : mm_G p l e R s m args below meth c D cs A h0 hf Q x.1.2.2.1 pc L st h := by
  have hl : 3 = len := hl
  subst hl
  obtain ⟨a, r, rfl, hr⟩ := mm_i1_of (show mm_i1 st (fun a r => mm_tg pc off (fun t => mm_cmp cd a 0 (go t L r h) (go (pc + 3) L r h))) = some (o, hf) from hr)
  obtain ⟨t, ht, hr⟩ := mm_tg_of hr
  cases cd with
  | eq =>
    rcases mm_br_of (show mm_br (a = 0) _ _ = _ from hr) with ⟨hc, hr⟩ | ⟨hc, hr⟩
    · have g := hgo _ _ _ _ hr
      exact ⟨g.1, fun H locs cells slots ls hI hL => lv_if_eq hx hb hd ht (fun _ => g.2 H locs cells slots ls hI hL) (fun z => absurd hc z)⟩
    · have g := hgo _ _ _ _ hr
      exact ⟨g.1, fun H locs cells slots ls hI hL => lv_if_eq hx hb hd ht (fun z => absurd z hc) (fun _ => g.2 H locs cells slots ls hI hL)⟩
  | ne =>
    rcases mm_br_of (show mm_br (a = 0) _ _ = _ from hr) with ⟨hc, hr⟩ | ⟨hc, hr⟩
    · have g := hgo _ _ _ _ hr
      exact ⟨g.1, fun H locs cells slots ls hI hL => lv_if_ne hx hb hd ht (fun z => absurd hc z) (fun _ => g.2 H locs cells slots ls hI hL)⟩
    · have g := hgo _ _ _ _ hr
      exact ⟨g.1, fun H locs cells slots ls hI hL => lv_if_ne hx hb hd ht (fun _ => g.2 H locs cells slots ls hI hL) (fun z => absurd z hc)⟩
  | lt =>
    rcases mm_br_of (show mm_br (a < 0) _ _ = _ from hr) with ⟨hc, hr⟩ | ⟨hc, hr⟩
    · have g := hgo _ _ _ _ hr
      exact ⟨g.1, fun H locs cells slots ls hI hL => lv_if_lt hx hb hd ht (fun _ => g.2 H locs cells slots ls hI hL) (fun z => absurd hc z)⟩
    · have g := hgo _ _ _ _ hr
      exact ⟨g.1, fun H locs cells slots ls hI hL => lv_if_lt hx hb hd ht (fun z => absurd z hc) (fun _ => g.2 H locs cells slots ls hI hL)⟩
  | ge =>
    rcases mm_br_of (show mm_br (0 ≤ a) _ _ = _ from hr) with ⟨hc, hr⟩ | ⟨hc, hr⟩
    · have g := hgo _ _ _ _ hr
      exact ⟨g.1, fun H locs cells slots ls hI hL => lv_if_ge hx hb hd ht (fun _ => g.2 H locs cells slots ls hI hL) (fun z => absurd hc z)⟩
    · have g := hgo _ _ _ _ hr
      exact ⟨g.1, fun H locs cells slots ls hI hL => lv_if_ge hx hb hd ht (fun z => absurd z hc) (fun _ => g.2 H locs cells slots ls hI hL)⟩
  | gt =>
    rcases mm_br_of (show mm_br (0 < a) _ _ = _ from hr) with ⟨hc, hr⟩ | ⟨hc, hr⟩
    · have g := hgo _ _ _ _ hr
      exact ⟨g.1, fun H locs cells slots ls hI hL => lv_if_gt hx hb hd ht (fun _ => g.2 H locs cells slots ls hI hL) (fun z => absurd hc z)⟩
    · have g := hgo _ _ _ _ hr
      exact ⟨g.1, fun H locs cells slots ls hI hL => lv_if_gt hx hb hd ht (fun z => absurd z hc) (fun _ => g.2 H locs cells slots ls hI hL)⟩
  | le =>
    rcases mm_br_of (show mm_br (a ≤ 0) _ _ = _ from hr) with ⟨hc, hr⟩ | ⟨hc, hr⟩
    · have g := hgo _ _ _ _ hr
      exact ⟨g.1, fun H locs cells slots ls hI hL => lv_if_le hx hb hd ht (fun _ => g.2 H locs cells slots ls hI hL) (fun z => absurd hc z)⟩
    · have g := hgo _ _ _ _ hr
      exact ⟨g.1, fun H locs cells slots ls hI hL => lv_if_le hx hb hd ht (fun z => absurd z hc) (fun _ => g.2 H locs cells slots ls hI hL)⟩
