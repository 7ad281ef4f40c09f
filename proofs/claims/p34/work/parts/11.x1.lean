abbrev rm_X1_copyFrom : Room := { frames := 0, cells := 0, slots := 0, locals := 0 }
theorem dX1_copyFrom_0 : decode cX1_copyFrom 0 = .ok (.aload_n 0, 1) := by decide +kernel
theorem dX1_copyFrom_1 : decode cX1_copyFrom 1 = .ok (.aload_n 1, 1) := by decide +kernel
theorem dX1_copyFrom_2 : decode cX1_copyFrom 2 = .ok (.getfield 7, 3) := by decide +kernel
theorem dX1_copyFrom_5 : decode cX1_copyFrom 5 = .ok (.putfield 7, 3) := by decide +kernel
theorem dX1_copyFrom_8 : decode cX1_copyFrom 8 = .ok (.aload_n 0, 1) := by decide +kernel
theorem dX1_copyFrom_9 : decode cX1_copyFrom 9 = .ok (.aload_n 1, 1) := by decide +kernel
theorem dX1_copyFrom_10 : decode cX1_copyFrom 10 = .ok (.getfield 13, 3) := by decide +kernel
theorem dX1_copyFrom_13 : decode cX1_copyFrom 13 = .ok (.putfield 13, 3) := by decide +kernel
theorem dX1_copyFrom_16 : decode cX1_copyFrom 16 = .ok (.aload_n 0, 1) := by decide +kernel
theorem dX1_copyFrom_17 : decode cX1_copyFrom 17 = .ok (.aload_n 1, 1) := by decide +kernel
theorem dX1_copyFrom_18 : decode cX1_copyFrom 18 = .ok (.getfield 17, 3) := by decide +kernel
theorem dX1_copyFrom_21 : decode cX1_copyFrom 21 = .ok (.putfield 17, 3) := by decide +kernel
theorem dX1_copyFrom_24 : decode cX1_copyFrom 24 = .ok (.aload_n 0, 1) := by decide +kernel
theorem dX1_copyFrom_25 : decode cX1_copyFrom 25 = .ok (.aload_n 1, 1) := by decide +kernel
theorem dX1_copyFrom_26 : decode cX1_copyFrom 26 = .ok (.getfield 20, 3) := by decide +kernel
theorem dX1_copyFrom_29 : decode cX1_copyFrom 29 = .ok (.putfield 20, 3) := by decide +kernel
theorem dX1_copyFrom_32 : decode cX1_copyFrom 32 = .ok (.aload_n 0, 1) := by decide +kernel
theorem dX1_copyFrom_33 : decode cX1_copyFrom 33 = .ok (.aload_n 1, 1) := by decide +kernel
theorem dX1_copyFrom_34 : decode cX1_copyFrom 34 = .ok (.getfield 23, 3) := by decide +kernel
theorem dX1_copyFrom_37 : decode cX1_copyFrom 37 = .ok (.putfield 23, 3) := by decide +kernel
theorem dX1_copyFrom_40 : decode cX1_copyFrom 40 = .ok (.aload_n 0, 1) := by decide +kernel
theorem dX1_copyFrom_41 : decode cX1_copyFrom 41 = .ok (.aload_n 1, 1) := by decide +kernel
theorem dX1_copyFrom_42 : decode cX1_copyFrom 42 = .ok (.getfield 26, 3) := by decide +kernel
theorem dX1_copyFrom_45 : decode cX1_copyFrom 45 = .ok (.putfield 26, 3) := by decide +kernel
theorem dX1_copyFrom_48 : decode cX1_copyFrom 48 = .ok (.aload_n 0, 1) := by decide +kernel
theorem dX1_copyFrom_49 : decode cX1_copyFrom 49 = .ok (.aload_n 1, 1) := by decide +kernel
theorem dX1_copyFrom_50 : decode cX1_copyFrom 50 = .ok (.getfield 29, 3) := by decide +kernel
theorem dX1_copyFrom_53 : decode cX1_copyFrom 53 = .ok (.putfield 29, 3) := by decide +kernel
theorem dX1_copyFrom_56 : decode cX1_copyFrom 56 = .ok (.aload_n 0, 1) := by decide +kernel
theorem dX1_copyFrom_57 : decode cX1_copyFrom 57 = .ok (.aload_n 1, 1) := by decide +kernel
theorem dX1_copyFrom_58 : decode cX1_copyFrom 58 = .ok (.getfield 33, 3) := by decide +kernel
theorem dX1_copyFrom_61 : decode cX1_copyFrom 61 = .ok (.putfield 33, 3) := by decide +kernel
theorem dX1_copyFrom_64 : decode cX1_copyFrom 64 = .ok (.return_, 1) := by decide +kernel
theorem gf_X1_7 {p : Program} {l : Launch} {e : Env} {R : Room} {s : State} {m : MethodId} {args : Array Value} {below : List Frame} {meth : Method} {c : Code} {H : Heap} {locs : List Loc} {cells slots : Nat} {Q : State → Prop} {cc : ByteArray} {pc nL : Nat} {ls : Array Slot} {rest : List Value} {D : va_G} {ws : va_W} {tys : List (ClassId × FieldType)} (S : CallFix p m c cc nL s args TB RX1) (hK : va_K D vwCl tys s) (hP : va_P D vwCl ws H) (q0 : Nat) {a : Nat} {fs : List Value} (he : ws[q0]? = some (a, .inr (1, fs))) {v : Value} (hv : fs[0]? = some v) (hdg : decode cc pc = .ok (.getfield 7, 3))
    (kk : W p l e R s m args below meth c H locs cells slots Q (F0 m (pc + 3) ls (v :: rest))) : W p l e R s m args below meth c H locs cells slots Q (F0 m pc ls (.ref a :: rest)) :=
  va_get (D := D) (ci := 1) (C := RX1) (T := TX1) (N := 8) S.1 S.2.1 S.2.2.2.2 iwX1 S.2.2.2.1 hK hP q0 he rfl 0 (by decide) (S.2.2.2.2 _ tb156) (fun _ h9 => h9) hv hdg kk
theorem pf_X1_7 {p : Program} {l : Launch} {e : Env} {R : Room} {s : State} {m : MethodId} {args : Array Value} {below : List Frame} {meth : Method} {c : Code} {H H0 : Heap} {locs : List Loc} {cells slots : Nat} {Q : State → Prop} {cc : ByteArray} {pc nL : Nat} {ls : Array Slot} {rest : List Value} {D : va_G} {ws : va_W} {tys : List (ClassId × FieldType)} {A : Nat → Prop} {v : Value} (S : CallFix p m c cc nL s args TB RX1) (hK : va_K D vwCl tys s) (hP : va_P D vwCl ws H) (hD : va_D A ws) (hS : va_S A H0 H locs) (q0 : Nat) {a : Nat} {fs : List Value} (he : ws[q0]? = some (a, .inr (1, fs))) (hle : 0 < fs.length) (hn : narrow .boolean v = v) (hfit : fits .boolean v = true) (hdg : decode cc pc = .ok (.putfield 7, 3))
    (kk : ∀ (H1 : Heap) (locs1 : List Loc), va_P D vwCl (ws.set q0 (a, .inr (1, fs.set 0 v))) H1 → va_D A (ws.set q0 (a, .inr (1, fs.set 0 v))) → va_S A H0 H1 locs1 → W p l e R s m args below meth c H1 locs1 cells slots Q (F0 m (pc + 3) ls rest)) : W p l e R s m args below meth c H locs cells slots Q (F0 m pc ls (v :: .ref a :: rest)) :=
  va_put (D := D) (ci := 1) (ty := .boolean) (C := RX1) (T := TX1) (N := 8) S.1 S.2.1 S.2.2.2.2 iwX1 tyX1 tyX1_ok nmX1 S.2.2.2.1 hK hP hD hS q0 he rfl 0 (by decide) (S.2.2.2.2 _ tb156) (fun _ h9 => h9) rfl (by decide +kernel) hn hfit hle hdg kk
theorem gf_X1_13 {p : Program} {l : Launch} {e : Env} {R : Room} {s : State} {m : MethodId} {args : Array Value} {below : List Frame} {meth : Method} {c : Code} {H : Heap} {locs : List Loc} {cells slots : Nat} {Q : State → Prop} {cc : ByteArray} {pc nL : Nat} {ls : Array Slot} {rest : List Value} {D : va_G} {ws : va_W} {tys : List (ClassId × FieldType)} (S : CallFix p m c cc nL s args TB RX1) (hK : va_K D vwCl tys s) (hP : va_P D vwCl ws H) (q0 : Nat) {a : Nat} {fs : List Value} (he : ws[q0]? = some (a, .inr (1, fs))) {v : Value} (hv : fs[1]? = some v) (hdg : decode cc pc = .ok (.getfield 13, 3))
    (kk : W p l e R s m args below meth c H locs cells slots Q (F0 m (pc + 3) ls (v :: rest))) : W p l e R s m args below meth c H locs cells slots Q (F0 m pc ls (.ref a :: rest)) :=
  va_get (D := D) (ci := 1) (C := RX1) (T := TX1) (N := 8) S.1 S.2.1 S.2.2.2.2 iwX1 S.2.2.2.1 hK hP q0 he rfl 1 (by decide) (S.2.2.2.2 _ tb158) (fun _ h9 => h9) hv hdg kk
theorem pf_X1_13 {p : Program} {l : Launch} {e : Env} {R : Room} {s : State} {m : MethodId} {args : Array Value} {below : List Frame} {meth : Method} {c : Code} {H H0 : Heap} {locs : List Loc} {cells slots : Nat} {Q : State → Prop} {cc : ByteArray} {pc nL : Nat} {ls : Array Slot} {rest : List Value} {D : va_G} {ws : va_W} {tys : List (ClassId × FieldType)} {A : Nat → Prop} {x9 : Int32} {v : Value} (S : CallFix p m c cc nL s args TB RX1) (hK : va_K D vwCl tys s) (hP : va_P D vwCl ws H) (hD : va_D A ws) (hS : va_S A H0 H locs) (q0 : Nat) {a : Nat} {fs : List Value} (he : ws[q0]? = some (a, .inr (1, fs))) (hle : 1 < fs.length) (hv9 : v = .int x9) (hdg : decode cc pc = .ok (.putfield 13, 3))
    (kk : ∀ (H1 : Heap) (locs1 : List Loc), va_P D vwCl (ws.set q0 (a, .inr (1, fs.set 1 v))) H1 → va_D A (ws.set q0 (a, .inr (1, fs.set 1 v))) → va_S A H0 H1 locs1 → W p l e R s m args below meth c H1 locs1 cells slots Q (F0 m (pc + 3) ls rest)) : W p l e R s m args below meth c H locs cells slots Q (F0 m pc ls (v :: .ref a :: rest)) := by
  subst hv9
  exact va_put (D := D) (ci := 1) (ty := .int) (C := RX1) (T := TX1) (N := 8) S.1 S.2.1 S.2.2.2.2 iwX1 tyX1 tyX1_ok nmX1 S.2.2.2.1 hK hP hD hS q0 he rfl 1 (by decide) (S.2.2.2.2 _ tb158) (fun _ h9 => h9) rfl (by decide +kernel) rfl rfl hle hdg kk
theorem gf_X1_17 {p : Program} {l : Launch} {e : Env} {R : Room} {s : State} {m : MethodId} {args : Array Value} {below : List Frame} {meth : Method} {c : Code} {H : Heap} {locs : List Loc} {cells slots : Nat} {Q : State → Prop} {cc : ByteArray} {pc nL : Nat} {ls : Array Slot} {rest : List Value} {D : va_G} {ws : va_W} {tys : List (ClassId × FieldType)} (S : CallFix p m c cc nL s args TB RX1) (hK : va_K D vwCl tys s) (hP : va_P D vwCl ws H) (q0 : Nat) {a : Nat} {fs : List Value} (he : ws[q0]? = some (a, .inr (1, fs))) {v : Value} (hv : fs[2]? = some v) (hdg : decode cc pc = .ok (.getfield 17, 3))
    (kk : W p l e R s m args below meth c H locs cells slots Q (F0 m (pc + 3) ls (v :: rest))) : W p l e R s m args below meth c H locs cells slots Q (F0 m pc ls (.ref a :: rest)) :=
  va_get (D := D) (ci := 1) (C := RX1) (T := TX1) (N := 8) S.1 S.2.1 S.2.2.2.2 iwX1 S.2.2.2.1 hK hP q0 he rfl 2 (by decide) (S.2.2.2.2 _ tb160) (fun _ h9 => h9) hv hdg kk
theorem pf_X1_17 {p : Program} {l : Launch} {e : Env} {R : Room} {s : State} {m : MethodId} {args : Array Value} {below : List Frame} {meth : Method} {c : Code} {H H0 : Heap} {locs : List Loc} {cells slots : Nat} {Q : State → Prop} {cc : ByteArray} {pc nL : Nat} {ls : Array Slot} {rest : List Value} {D : va_G} {ws : va_W} {tys : List (ClassId × FieldType)} {A : Nat → Prop} {x9 : Int32} {v : Value} (S : CallFix p m c cc nL s args TB RX1) (hK : va_K D vwCl tys s) (hP : va_P D vwCl ws H) (hD : va_D A ws) (hS : va_S A H0 H locs) (q0 : Nat) {a : Nat} {fs : List Value} (he : ws[q0]? = some (a, .inr (1, fs))) (hle : 2 < fs.length) (hv9 : v = .int x9) (hdg : decode cc pc = .ok (.putfield 17, 3))
    (kk : ∀ (H1 : Heap) (locs1 : List Loc), va_P D vwCl (ws.set q0 (a, .inr (1, fs.set 2 v))) H1 → va_D A (ws.set q0 (a, .inr (1, fs.set 2 v))) → va_S A H0 H1 locs1 → W p l e R s m args below meth c H1 locs1 cells slots Q (F0 m (pc + 3) ls rest)) : W p l e R s m args below meth c H locs cells slots Q (F0 m pc ls (v :: .ref a :: rest)) := by
  subst hv9
  exact va_put (D := D) (ci := 1) (ty := .int) (C := RX1) (T := TX1) (N := 8) S.1 S.2.1 S.2.2.2.2 iwX1 tyX1 tyX1_ok nmX1 S.2.2.2.1 hK hP hD hS q0 he rfl 2 (by decide) (S.2.2.2.2 _ tb160) (fun _ h9 => h9) rfl (by decide +kernel) rfl rfl hle hdg kk
theorem gf_X1_20 {p : Program} {l : Launch} {e : Env} {R : Room} {s : State} {m : MethodId} {args : Array Value} {below : List Frame} {meth : Method} {c : Code} {H : Heap} {locs : List Loc} {cells slots : Nat} {Q : State → Prop} {cc : ByteArray} {pc nL : Nat} {ls : Array Slot} {rest : List Value} {D : va_G} {ws : va_W} {tys : List (ClassId × FieldType)} (S : CallFix p m c cc nL s args TB RX1) (hK : va_K D vwCl tys s) (hP : va_P D vwCl ws H) (q0 : Nat) {a : Nat} {fs : List Value} (he : ws[q0]? = some (a, .inr (1, fs))) {v : Value} (hv : fs[3]? = some v) (hdg : decode cc pc = .ok (.getfield 20, 3))
    (kk : W p l e R s m args below meth c H locs cells slots Q (F0 m (pc + 3) ls (v :: rest))) : W p l e R s m args below meth c H locs cells slots Q (F0 m pc ls (.ref a :: rest)) :=
  va_get (D := D) (ci := 1) (C := RX1) (T := TX1) (N := 8) S.1 S.2.1 S.2.2.2.2 iwX1 S.2.2.2.1 hK hP q0 he rfl 3 (by decide) (S.2.2.2.2 _ tb162) (fun _ h9 => h9) hv hdg kk
theorem pf_X1_20 {p : Program} {l : Launch} {e : Env} {R : Room} {s : State} {m : MethodId} {args : Array Value} {below : List Frame} {meth : Method} {c : Code} {H H0 : Heap} {locs : List Loc} {cells slots : Nat} {Q : State → Prop} {cc : ByteArray} {pc nL : Nat} {ls : Array Slot} {rest : List Value} {D : va_G} {ws : va_W} {tys : List (ClassId × FieldType)} {A : Nat → Prop} {x9 : Int32} {v : Value} (S : CallFix p m c cc nL s args TB RX1) (hK : va_K D vwCl tys s) (hP : va_P D vwCl ws H) (hD : va_D A ws) (hS : va_S A H0 H locs) (q0 : Nat) {a : Nat} {fs : List Value} (he : ws[q0]? = some (a, .inr (1, fs))) (hle : 3 < fs.length) (hv9 : v = .int x9) (hdg : decode cc pc = .ok (.putfield 20, 3))
    (kk : ∀ (H1 : Heap) (locs1 : List Loc), va_P D vwCl (ws.set q0 (a, .inr (1, fs.set 3 v))) H1 → va_D A (ws.set q0 (a, .inr (1, fs.set 3 v))) → va_S A H0 H1 locs1 → W p l e R s m args below meth c H1 locs1 cells slots Q (F0 m (pc + 3) ls rest)) : W p l e R s m args below meth c H locs cells slots Q (F0 m pc ls (v :: .ref a :: rest)) := by
  subst hv9
  exact va_put (D := D) (ci := 1) (ty := .int) (C := RX1) (T := TX1) (N := 8) S.1 S.2.1 S.2.2.2.2 iwX1 tyX1 tyX1_ok nmX1 S.2.2.2.1 hK hP hD hS q0 he rfl 3 (by decide) (S.2.2.2.2 _ tb162) (fun _ h9 => h9) rfl (by decide +kernel) rfl rfl hle hdg kk
theorem gf_X1_23 {p : Program} {l : Launch} {e : Env} {R : Room} {s : State} {m : MethodId} {args : Array Value} {below : List Frame} {meth : Method} {c : Code} {H : Heap} {locs : List Loc} {cells slots : Nat} {Q : State → Prop} {cc : ByteArray} {pc nL : Nat} {ls : Array Slot} {rest : List Value} {D : va_G} {ws : va_W} {tys : List (ClassId × FieldType)} (S : CallFix p m c cc nL s args TB RX1) (hK : va_K D vwCl tys s) (hP : va_P D vwCl ws H) (q0 : Nat) {a : Nat} {fs : List Value} (he : ws[q0]? = some (a, .inr (1, fs))) {v : Value} (hv : fs[4]? = some v) (hdg : decode cc pc = .ok (.getfield 23, 3))
    (kk : W p l e R s m args below meth c H locs cells slots Q (F0 m (pc + 3) ls (v :: rest))) : W p l e R s m args below meth c H locs cells slots Q (F0 m pc ls (.ref a :: rest)) :=
  va_get (D := D) (ci := 1) (C := RX1) (T := TX1) (N := 8) S.1 S.2.1 S.2.2.2.2 iwX1 S.2.2.2.1 hK hP q0 he rfl 4 (by decide) (S.2.2.2.2 _ tb164) (fun _ h9 => h9) hv hdg kk
theorem pf_X1_23 {p : Program} {l : Launch} {e : Env} {R : Room} {s : State} {m : MethodId} {args : Array Value} {below : List Frame} {meth : Method} {c : Code} {H H0 : Heap} {locs : List Loc} {cells slots : Nat} {Q : State → Prop} {cc : ByteArray} {pc nL : Nat} {ls : Array Slot} {rest : List Value} {D : va_G} {ws : va_W} {tys : List (ClassId × FieldType)} {A : Nat → Prop} {x9 : Int32} {v : Value} (S : CallFix p m c cc nL s args TB RX1) (hK : va_K D vwCl tys s) (hP : va_P D vwCl ws H) (hD : va_D A ws) (hS : va_S A H0 H locs) (q0 : Nat) {a : Nat} {fs : List Value} (he : ws[q0]? = some (a, .inr (1, fs))) (hle : 4 < fs.length) (hv9 : v = .int x9) (hdg : decode cc pc = .ok (.putfield 23, 3))
    (kk : ∀ (H1 : Heap) (locs1 : List Loc), va_P D vwCl (ws.set q0 (a, .inr (1, fs.set 4 v))) H1 → va_D A (ws.set q0 (a, .inr (1, fs.set 4 v))) → va_S A H0 H1 locs1 → W p l e R s m args below meth c H1 locs1 cells slots Q (F0 m (pc + 3) ls rest)) : W p l e R s m args below meth c H locs cells slots Q (F0 m pc ls (v :: .ref a :: rest)) := by
  subst hv9
  exact va_put (D := D) (ci := 1) (ty := .int) (C := RX1) (T := TX1) (N := 8) S.1 S.2.1 S.2.2.2.2 iwX1 tyX1 tyX1_ok nmX1 S.2.2.2.1 hK hP hD hS q0 he rfl 4 (by decide) (S.2.2.2.2 _ tb164) (fun _ h9 => h9) rfl (by decide +kernel) rfl rfl hle hdg kk
theorem gf_X1_26 {p : Program} {l : Launch} {e : Env} {R : Room} {s : State} {m : MethodId} {args : Array Value} {below : List Frame} {meth : Method} {c : Code} {H : Heap} {locs : List Loc} {cells slots : Nat} {Q : State → Prop} {cc : ByteArray} {pc nL : Nat} {ls : Array Slot} {rest : List Value} {D : va_G} {ws : va_W} {tys : List (ClassId × FieldType)} (S : CallFix p m c cc nL s args TB RX1) (hK : va_K D vwCl tys s) (hP : va_P D vwCl ws H) (q0 : Nat) {a : Nat} {fs : List Value} (he : ws[q0]? = some (a, .inr (1, fs))) {v : Value} (hv : fs[5]? = some v) (hdg : decode cc pc = .ok (.getfield 26, 3))
    (kk : W p l e R s m args below meth c H locs cells slots Q (F0 m (pc + 3) ls (v :: rest))) : W p l e R s m args below meth c H locs cells slots Q (F0 m pc ls (.ref a :: rest)) :=
  va_get (D := D) (ci := 1) (C := RX1) (T := TX1) (N := 8) S.1 S.2.1 S.2.2.2.2 iwX1 S.2.2.2.1 hK hP q0 he rfl 5 (by decide) (S.2.2.2.2 _ tb166) (fun _ h9 => h9) hv hdg kk
theorem pf_X1_26 {p : Program} {l : Launch} {e : Env} {R : Room} {s : State} {m : MethodId} {args : Array Value} {below : List Frame} {meth : Method} {c : Code} {H H0 : Heap} {locs : List Loc} {cells slots : Nat} {Q : State → Prop} {cc : ByteArray} {pc nL : Nat} {ls : Array Slot} {rest : List Value} {D : va_G} {ws : va_W} {tys : List (ClassId × FieldType)} {A : Nat → Prop} {x9 : Int32} {v : Value} (S : CallFix p m c cc nL s args TB RX1) (hK : va_K D vwCl tys s) (hP : va_P D vwCl ws H) (hD : va_D A ws) (hS : va_S A H0 H locs) (q0 : Nat) {a : Nat} {fs : List Value} (he : ws[q0]? = some (a, .inr (1, fs))) (hle : 5 < fs.length) (hv9 : v = .int x9) (hdg : decode cc pc = .ok (.putfield 26, 3))
    (kk : ∀ (H1 : Heap) (locs1 : List Loc), va_P D vwCl (ws.set q0 (a, .inr (1, fs.set 5 v))) H1 → va_D A (ws.set q0 (a, .inr (1, fs.set 5 v))) → va_S A H0 H1 locs1 → W p l e R s m args below meth c H1 locs1 cells slots Q (F0 m (pc + 3) ls rest)) : W p l e R s m args below meth c H locs cells slots Q (F0 m pc ls (v :: .ref a :: rest)) := by
  subst hv9
  exact va_put (D := D) (ci := 1) (ty := .int) (C := RX1) (T := TX1) (N := 8) S.1 S.2.1 S.2.2.2.2 iwX1 tyX1 tyX1_ok nmX1 S.2.2.2.1 hK hP hD hS q0 he rfl 5 (by decide) (S.2.2.2.2 _ tb166) (fun _ h9 => h9) rfl (by decide +kernel) rfl rfl hle hdg kk
theorem gf_X1_29 {p : Program} {l : Launch} {e : Env} {R : Room} {s : State} {m : MethodId} {args : Array Value} {below : List Frame} {meth : Method} {c : Code} {H : Heap} {locs : List Loc} {cells slots : Nat} {Q : State → Prop} {cc : ByteArray} {pc nL : Nat} {ls : Array Slot} {rest : List Value} {D : va_G} {ws : va_W} {tys : List (ClassId × FieldType)} (S : CallFix p m c cc nL s args TB RX1) (hK : va_K D vwCl tys s) (hP : va_P D vwCl ws H) (q0 : Nat) {a : Nat} {fs : List Value} (he : ws[q0]? = some (a, .inr (1, fs))) {v : Value} (hv : fs[6]? = some v) (hdg : decode cc pc = .ok (.getfield 29, 3))
    (kk : W p l e R s m args below meth c H locs cells slots Q (F0 m (pc + 3) ls (v :: rest))) : W p l e R s m args below meth c H locs cells slots Q (F0 m pc ls (.ref a :: rest)) :=
  va_get (D := D) (ci := 1) (C := RX1) (T := TX1) (N := 8) S.1 S.2.1 S.2.2.2.2 iwX1 S.2.2.2.1 hK hP q0 he rfl 6 (by decide) (S.2.2.2.2 _ tb168) (fun _ h9 => h9) hv hdg kk
theorem pf_X1_29 {p : Program} {l : Launch} {e : Env} {R : Room} {s : State} {m : MethodId} {args : Array Value} {below : List Frame} {meth : Method} {c : Code} {H H0 : Heap} {locs : List Loc} {cells slots : Nat} {Q : State → Prop} {cc : ByteArray} {pc nL : Nat} {ls : Array Slot} {rest : List Value} {D : va_G} {ws : va_W} {tys : List (ClassId × FieldType)} {A : Nat → Prop} {x9 : Int64} {v : Value} (S : CallFix p m c cc nL s args TB RX1) (hK : va_K D vwCl tys s) (hP : va_P D vwCl ws H) (hD : va_D A ws) (hS : va_S A H0 H locs) (q0 : Nat) {a : Nat} {fs : List Value} (he : ws[q0]? = some (a, .inr (1, fs))) (hle : 6 < fs.length) (hv9 : v = .long x9) (hdg : decode cc pc = .ok (.putfield 29, 3))
    (kk : ∀ (H1 : Heap) (locs1 : List Loc), va_P D vwCl (ws.set q0 (a, .inr (1, fs.set 6 v))) H1 → va_D A (ws.set q0 (a, .inr (1, fs.set 6 v))) → va_S A H0 H1 locs1 → W p l e R s m args below meth c H1 locs1 cells slots Q (F0 m (pc + 3) ls rest)) : W p l e R s m args below meth c H locs cells slots Q (F0 m pc ls (v :: .ref a :: rest)) := by
  subst hv9
  exact va_put (D := D) (ci := 1) (ty := .long) (C := RX1) (T := TX1) (N := 8) S.1 S.2.1 S.2.2.2.2 iwX1 tyX1 tyX1_ok nmX1 S.2.2.2.1 hK hP hD hS q0 he rfl 6 (by decide) (S.2.2.2.2 _ tb168) (fun _ h9 => h9) rfl (by decide +kernel) rfl rfl hle hdg kk
theorem gf_X1_33 {p : Program} {l : Launch} {e : Env} {R : Room} {s : State} {m : MethodId} {args : Array Value} {below : List Frame} {meth : Method} {c : Code} {H : Heap} {locs : List Loc} {cells slots : Nat} {Q : State → Prop} {cc : ByteArray} {pc nL : Nat} {ls : Array Slot} {rest : List Value} {D : va_G} {ws : va_W} {tys : List (ClassId × FieldType)} (S : CallFix p m c cc nL s args TB RX1) (hK : va_K D vwCl tys s) (hP : va_P D vwCl ws H) (q0 : Nat) {a : Nat} {fs : List Value} (he : ws[q0]? = some (a, .inr (1, fs))) {v : Value} (hv : fs[7]? = some v) (hdg : decode cc pc = .ok (.getfield 33, 3))
    (kk : W p l e R s m args below meth c H locs cells slots Q (F0 m (pc + 3) ls (v :: rest))) : W p l e R s m args below meth c H locs cells slots Q (F0 m pc ls (.ref a :: rest)) :=
  va_get (D := D) (ci := 1) (C := RX1) (T := TX1) (N := 8) S.1 S.2.1 S.2.2.2.2 iwX1 S.2.2.2.1 hK hP q0 he rfl 7 (by decide) (S.2.2.2.2 _ tb170) (fun _ h9 => h9) hv hdg kk
theorem pf_X1_33 {p : Program} {l : Launch} {e : Env} {R : Room} {s : State} {m : MethodId} {args : Array Value} {below : List Frame} {meth : Method} {c : Code} {H H0 : Heap} {locs : List Loc} {cells slots : Nat} {Q : State → Prop} {cc : ByteArray} {pc nL : Nat} {ls : Array Slot} {rest : List Value} {D : va_G} {ws : va_W} {tys : List (ClassId × FieldType)} {A : Nat → Prop} {x9 : Int64} {v : Value} (S : CallFix p m c cc nL s args TB RX1) (hK : va_K D vwCl tys s) (hP : va_P D vwCl ws H) (hD : va_D A ws) (hS : va_S A H0 H locs) (q0 : Nat) {a : Nat} {fs : List Value} (he : ws[q0]? = some (a, .inr (1, fs))) (hle : 7 < fs.length) (hv9 : v = .long x9) (hdg : decode cc pc = .ok (.putfield 33, 3))
    (kk : ∀ (H1 : Heap) (locs1 : List Loc), va_P D vwCl (ws.set q0 (a, .inr (1, fs.set 7 v))) H1 → va_D A (ws.set q0 (a, .inr (1, fs.set 7 v))) → va_S A H0 H1 locs1 → W p l e R s m args below meth c H1 locs1 cells slots Q (F0 m (pc + 3) ls rest)) : W p l e R s m args below meth c H locs cells slots Q (F0 m pc ls (v :: .ref a :: rest)) := by
  subst hv9
  exact va_put (D := D) (ci := 1) (ty := .long) (C := RX1) (T := TX1) (N := 8) S.1 S.2.1 S.2.2.2.2 iwX1 tyX1 tyX1_ok nmX1 S.2.2.2.1 hK hP hD hS q0 he rfl 7 (by decide) (S.2.2.2.2 _ tb170) (fun _ h9 => h9) rfl (by decide +kernel) rfl rfl hle hdg kk
def f_X1_copyFrom (v1_going v1_track v1_segment v1_rung v1_waiting v1_duration : Int32) (v1_bits v1_received : Int64) : Option (Int32 × Int32 × Int32 × Int32 × Int32 × Int32 × Int64 × Int64) :=
  grd (isb v1_going) <|
  some (v1_going, v1_track, v1_segment, v1_rung, v1_waiting, v1_duration, v1_bits, v1_received)
set_option maxHeartbeats 4000000 in
set_option maxRecDepth 100000 in
theorem c_X1_copyFrom (l : Launch) (D : va_G) (cI cJ cC : ClassId) (h0 h1 : Nat) (v0_going v0_track v0_segment v0_rung v0_waiting v0_duration : Int32) (v0_bits v0_received : Int64) (v1_going v1_track v1_segment v1_rung v1_waiting v1_duration : Int32) (v1_bits v1_received : Int64) (sz : Nat)  (T : Int32 × Int32 × Int32 × Int32 × Int32 × Int32 × Int64 × Int64) (h : f_X1_copyFrom v1_going v1_track v1_segment v1_rung v1_waiting v1_duration v1_bits v1_received = some T) : Met l yX1_copyFrom (Cond.code yX1_copyFrom cX1_copyFrom 2 none :: TB) rm_X1_copyFrom (PreW D cI cJ cC [(h0, .inr (1, [.int v0_going, .int v0_track, .int v0_segment, .int v0_rung, .int v0_waiting, .int v0_duration, .long v0_bits, .long v0_received])), (h1, .inr (1, [.int v1_going, .int v1_track, .int v1_segment, .int v1_rung, .int v1_waiting, .int v1_duration, .long v1_bits, .long v1_received]))] sz [.ref h0, .ref h1]) (QW none D [(h0, .inr (1, [.int T.1, .int T.2.1, .int T.2.2.1, .int T.2.2.2.1, .int T.2.2.2.2.1, .int T.2.2.2.2.2.1, .long T.2.2.2.2.2.2.1, .long T.2.2.2.2.2.2.2])), (h1, .inr (1, [.int v1_going, .int v1_track, .int v1_segment, .int v1_rung, .int v1_waiting, .int v1_duration, .long v1_bits, .long v1_received]))] (va_A [(h0, .inr (1, [.int v0_going, .int v0_track, .int v0_segment, .int v0_rung, .int v0_waiting, .int v0_duration, .long v0_bits, .long v0_received])), (h1, .inr (1, [.int v1_going, .int v1_track, .int v1_segment, .int v1_rung, .int v1_waiting, .int v1_duration, .long v1_bits, .long v1_received]))] sz)) 0 0 (va_A [(h0, .inr (1, [.int v0_going, .int v0_track, .int v0_segment, .int v0_rung, .int v0_waiting, .int v0_duration, .long v0_bits, .long v0_received])), (h1, .inr (1, [.int v1_going, .int v1_track, .int v1_segment, .int v1_rung, .int v1_waiting, .int v1_duration, .long v1_bits, .long v1_received]))] sz) := by
  refine metW (own := RX1) (by decide) rfl (Nat.le_of_ble_eq_true rfl) ?_
  intro p e s m below meth c S hr hlk hP hK A hAe hD hA hS ls hl
  clear hAe
  have hx := S.1
  have hb := S.2.1
  have hl : lv_has ls 2 [(0, .ref h0), (1, .ref h1)] := hl
  refine lv_aload_n hx hb dX1_copyFrom_0 rfl (lv_at hl 0 rfl) ?_
  refine lv_aload_n hx hb dX1_copyFrom_1 rfl (lv_at hl 1 rfl) ?_
  refine gf_X1_7 (v := .int v1_going) S hK hP 1 rfl rfl dX1_copyFrom_2 ?_
  obtain ⟨g1, h⟩ := grd_eq h
  refine pf_X1_7 (v := .int v1_going) S hK hP hD hS 0 rfl (Nat.le_of_ble_eq_true rfl) (isb_n g1) (isb_f g1) dX1_copyFrom_5 (fun H locs hP hD hS => ?_)
  have hP : va_P D vwCl [(h0, .inr (1, [.int v1_going, .int v0_track, .int v0_segment, .int v0_rung, .int v0_waiting, .int v0_duration, .long v0_bits, .long v0_received])), (h1, .inr (1, [.int v1_going, .int v1_track, .int v1_segment, .int v1_rung, .int v1_waiting, .int v1_duration, .long v1_bits, .long v1_received]))] H := hP
  have hD : va_D A [(h0, .inr (1, [.int v1_going, .int v0_track, .int v0_segment, .int v0_rung, .int v0_waiting, .int v0_duration, .long v0_bits, .long v0_received])), (h1, .inr (1, [.int v1_going, .int v1_track, .int v1_segment, .int v1_rung, .int v1_waiting, .int v1_duration, .long v1_bits, .long v1_received]))] := hD
  refine lv_aload_n hx hb dX1_copyFrom_8 rfl (lv_at hl 0 rfl) ?_
  refine lv_aload_n hx hb dX1_copyFrom_9 rfl (lv_at hl 1 rfl) ?_
  refine gf_X1_13 (v := .int v1_track) S hK hP 1 rfl rfl dX1_copyFrom_10 ?_
  refine pf_X1_13 (v := .int v1_track) S hK hP hD hS 0 rfl (Nat.le_of_ble_eq_true rfl) rfl dX1_copyFrom_13 (fun H locs hP hD hS => ?_)
  have hP : va_P D vwCl [(h0, .inr (1, [.int v1_going, .int v1_track, .int v0_segment, .int v0_rung, .int v0_waiting, .int v0_duration, .long v0_bits, .long v0_received])), (h1, .inr (1, [.int v1_going, .int v1_track, .int v1_segment, .int v1_rung, .int v1_waiting, .int v1_duration, .long v1_bits, .long v1_received]))] H := hP
  have hD : va_D A [(h0, .inr (1, [.int v1_going, .int v1_track, .int v0_segment, .int v0_rung, .int v0_waiting, .int v0_duration, .long v0_bits, .long v0_received])), (h1, .inr (1, [.int v1_going, .int v1_track, .int v1_segment, .int v1_rung, .int v1_waiting, .int v1_duration, .long v1_bits, .long v1_received]))] := hD
  refine lv_aload_n hx hb dX1_copyFrom_16 rfl (lv_at hl 0 rfl) ?_
  refine lv_aload_n hx hb dX1_copyFrom_17 rfl (lv_at hl 1 rfl) ?_
  refine gf_X1_17 (v := .int v1_segment) S hK hP 1 rfl rfl dX1_copyFrom_18 ?_
  refine pf_X1_17 (v := .int v1_segment) S hK hP hD hS 0 rfl (Nat.le_of_ble_eq_true rfl) rfl dX1_copyFrom_21 (fun H locs hP hD hS => ?_)
  have hP : va_P D vwCl [(h0, .inr (1, [.int v1_going, .int v1_track, .int v1_segment, .int v0_rung, .int v0_waiting, .int v0_duration, .long v0_bits, .long v0_received])), (h1, .inr (1, [.int v1_going, .int v1_track, .int v1_segment, .int v1_rung, .int v1_waiting, .int v1_duration, .long v1_bits, .long v1_received]))] H := hP
  have hD : va_D A [(h0, .inr (1, [.int v1_going, .int v1_track, .int v1_segment, .int v0_rung, .int v0_waiting, .int v0_duration, .long v0_bits, .long v0_received])), (h1, .inr (1, [.int v1_going, .int v1_track, .int v1_segment, .int v1_rung, .int v1_waiting, .int v1_duration, .long v1_bits, .long v1_received]))] := hD
  refine lv_aload_n hx hb dX1_copyFrom_24 rfl (lv_at hl 0 rfl) ?_
  refine lv_aload_n hx hb dX1_copyFrom_25 rfl (lv_at hl 1 rfl) ?_
  refine gf_X1_20 (v := .int v1_rung) S hK hP 1 rfl rfl dX1_copyFrom_26 ?_
  refine pf_X1_20 (v := .int v1_rung) S hK hP hD hS 0 rfl (Nat.le_of_ble_eq_true rfl) rfl dX1_copyFrom_29 (fun H locs hP hD hS => ?_)
  have hP : va_P D vwCl [(h0, .inr (1, [.int v1_going, .int v1_track, .int v1_segment, .int v1_rung, .int v0_waiting, .int v0_duration, .long v0_bits, .long v0_received])), (h1, .inr (1, [.int v1_going, .int v1_track, .int v1_segment, .int v1_rung, .int v1_waiting, .int v1_duration, .long v1_bits, .long v1_received]))] H := hP
  have hD : va_D A [(h0, .inr (1, [.int v1_going, .int v1_track, .int v1_segment, .int v1_rung, .int v0_waiting, .int v0_duration, .long v0_bits, .long v0_received])), (h1, .inr (1, [.int v1_going, .int v1_track, .int v1_segment, .int v1_rung, .int v1_waiting, .int v1_duration, .long v1_bits, .long v1_received]))] := hD
  refine lv_aload_n hx hb dX1_copyFrom_32 rfl (lv_at hl 0 rfl) ?_
  refine lv_aload_n hx hb dX1_copyFrom_33 rfl (lv_at hl 1 rfl) ?_
  refine gf_X1_23 (v := .int v1_waiting) S hK hP 1 rfl rfl dX1_copyFrom_34 ?_
  refine pf_X1_23 (v := .int v1_waiting) S hK hP hD hS 0 rfl (Nat.le_of_ble_eq_true rfl) rfl dX1_copyFrom_37 (fun H locs hP hD hS => ?_)
  have hP : va_P D vwCl [(h0, .inr (1, [.int v1_going, .int v1_track, .int v1_segment, .int v1_rung, .int v1_waiting, .int v0_duration, .long v0_bits, .long v0_received])), (h1, .inr (1, [.int v1_going, .int v1_track, .int v1_segment, .int v1_rung, .int v1_waiting, .int v1_duration, .long v1_bits, .long v1_received]))] H := hP
  have hD : va_D A [(h0, .inr (1, [.int v1_going, .int v1_track, .int v1_segment, .int v1_rung, .int v1_waiting, .int v0_duration, .long v0_bits, .long v0_received])), (h1, .inr (1, [.int v1_going, .int v1_track, .int v1_segment, .int v1_rung, .int v1_waiting, .int v1_duration, .long v1_bits, .long v1_received]))] := hD
  refine lv_aload_n hx hb dX1_copyFrom_40 rfl (lv_at hl 0 rfl) ?_
  refine lv_aload_n hx hb dX1_copyFrom_41 rfl (lv_at hl 1 rfl) ?_
  refine gf_X1_26 (v := .int v1_duration) S hK hP 1 rfl rfl dX1_copyFrom_42 ?_
  refine pf_X1_26 (v := .int v1_duration) S hK hP hD hS 0 rfl (Nat.le_of_ble_eq_true rfl) rfl dX1_copyFrom_45 (fun H locs hP hD hS => ?_)
  have hP : va_P D vwCl [(h0, .inr (1, [.int v1_going, .int v1_track, .int v1_segment, .int v1_rung, .int v1_waiting, .int v1_duration, .long v0_bits, .long v0_received])), (h1, .inr (1, [.int v1_going, .int v1_track, .int v1_segment, .int v1_rung, .int v1_waiting, .int v1_duration, .long v1_bits, .long v1_received]))] H := hP
  have hD : va_D A [(h0, .inr (1, [.int v1_going, .int v1_track, .int v1_segment, .int v1_rung, .int v1_waiting, .int v1_duration, .long v0_bits, .long v0_received])), (h1, .inr (1, [.int v1_going, .int v1_track, .int v1_segment, .int v1_rung, .int v1_waiting, .int v1_duration, .long v1_bits, .long v1_received]))] := hD
  refine lv_aload_n hx hb dX1_copyFrom_48 rfl (lv_at hl 0 rfl) ?_
  refine lv_aload_n hx hb dX1_copyFrom_49 rfl (lv_at hl 1 rfl) ?_
  refine gf_X1_29 (v := .long v1_bits) S hK hP 1 rfl rfl dX1_copyFrom_50 ?_
  refine pf_X1_29 (v := .long v1_bits) S hK hP hD hS 0 rfl (Nat.le_of_ble_eq_true rfl) rfl dX1_copyFrom_53 (fun H locs hP hD hS => ?_)
  have hP : va_P D vwCl [(h0, .inr (1, [.int v1_going, .int v1_track, .int v1_segment, .int v1_rung, .int v1_waiting, .int v1_duration, .long v1_bits, .long v0_received])), (h1, .inr (1, [.int v1_going, .int v1_track, .int v1_segment, .int v1_rung, .int v1_waiting, .int v1_duration, .long v1_bits, .long v1_received]))] H := hP
  have hD : va_D A [(h0, .inr (1, [.int v1_going, .int v1_track, .int v1_segment, .int v1_rung, .int v1_waiting, .int v1_duration, .long v1_bits, .long v0_received])), (h1, .inr (1, [.int v1_going, .int v1_track, .int v1_segment, .int v1_rung, .int v1_waiting, .int v1_duration, .long v1_bits, .long v1_received]))] := hD
  refine lv_aload_n hx hb dX1_copyFrom_56 rfl (lv_at hl 0 rfl) ?_
  refine lv_aload_n hx hb dX1_copyFrom_57 rfl (lv_at hl 1 rfl) ?_
  refine gf_X1_33 (v := .long v1_received) S hK hP 1 rfl rfl dX1_copyFrom_58 ?_
  refine pf_X1_33 (v := .long v1_received) S hK hP hD hS 0 rfl (Nat.le_of_ble_eq_true rfl) rfl dX1_copyFrom_61 (fun H locs hP hD hS => ?_)
  have hP : va_P D vwCl [(h0, .inr (1, [.int v1_going, .int v1_track, .int v1_segment, .int v1_rung, .int v1_waiting, .int v1_duration, .long v1_bits, .long v1_received])), (h1, .inr (1, [.int v1_going, .int v1_track, .int v1_segment, .int v1_rung, .int v1_waiting, .int v1_duration, .long v1_bits, .long v1_received]))] H := hP
  have hD : va_D A [(h0, .inr (1, [.int v1_going, .int v1_track, .int v1_segment, .int v1_rung, .int v1_waiting, .int v1_duration, .long v1_bits, .long v1_received])), (h1, .inr (1, [.int v1_going, .int v1_track, .int v1_segment, .int v1_rung, .int v1_waiting, .int v1_duration, .long v1_bits, .long v1_received]))] := hD
  have h := Option.some.inj h
  subst h
  exact wRv S hr hlk (hP.sub [0, 1] rfl) (hD.sub [0, 1] (by decide) rfl) hS dX1_copyFrom_64
abbrev rm_X1_fact : Room := { frames := 0, cells := 0, slots := 0, locals := 0 }
theorem dX1_fact_0 : decode cX1_fact 0 = .ok (.aload_n 0, 1) := by decide +kernel
theorem dX1_fact_1 : decode cX1_fact 1 = .ok (.getfield 7, 3) := by decide +kernel
theorem dX1_fact_4 : decode cX1_fact 4 = .ok (.ifCond .ne 5, 3) := by decide +kernel
theorem dX1_fact_7 : decode cX1_fact 7 = .ok (.iconst (-1), 1) := by decide +kernel
theorem dX1_fact_8 : decode cX1_fact 8 = .ok (.ireturn, 1) := by decide +kernel
theorem dX1_fact_9 : decode cX1_fact 9 = .ok (.iload_n 1, 1) := by decide +kernel
theorem dX1_fact_10 : decode cX1_fact 10 = .ok (.tableswitch 50 0 3 #[30, 35, 40, 45], 30) := by decide +kernel
theorem dX1_fact_40 : decode cX1_fact 40 = .ok (.aload_n 0, 1) := by decide +kernel
theorem dX1_fact_41 : decode cX1_fact 41 = .ok (.getfield 13, 3) := by decide +kernel
theorem dX1_fact_44 : decode cX1_fact 44 = .ok (.ireturn, 1) := by decide +kernel
theorem dX1_fact_45 : decode cX1_fact 45 = .ok (.aload_n 0, 1) := by decide +kernel
theorem dX1_fact_46 : decode cX1_fact 46 = .ok (.getfield 17, 3) := by decide +kernel
theorem dX1_fact_49 : decode cX1_fact 49 = .ok (.ireturn, 1) := by decide +kernel
theorem dX1_fact_50 : decode cX1_fact 50 = .ok (.aload_n 0, 1) := by decide +kernel
theorem dX1_fact_51 : decode cX1_fact 51 = .ok (.getfield 20, 3) := by decide +kernel
theorem dX1_fact_54 : decode cX1_fact 54 = .ok (.ireturn, 1) := by decide +kernel
theorem dX1_fact_55 : decode cX1_fact 55 = .ok (.aload_n 0, 1) := by decide +kernel
theorem dX1_fact_56 : decode cX1_fact 56 = .ok (.getfield 23, 3) := by decide +kernel
theorem dX1_fact_59 : decode cX1_fact 59 = .ok (.ireturn, 1) := by decide +kernel
theorem dX1_fact_60 : decode cX1_fact 60 = .ok (.aload_n 0, 1) := by decide +kernel
theorem dX1_fact_61 : decode cX1_fact 61 = .ok (.getfield 26, 3) := by decide +kernel
theorem dX1_fact_64 : decode cX1_fact 64 = .ok (.ireturn, 1) := by decide +kernel
def f_X1_fact (v0_going v0_track v0_segment v0_rung v0_waiting v0_duration p0 : Int32) : Int32 :=
  if v0_going = 0 then
    (-1)
  else
    if p0 = 0 then
      v0_track
    else
      if p0 = 1 then
        v0_segment
      else
        if p0 = 2 then
          v0_rung
        else
          if p0 = 3 then
            v0_waiting
          else
            v0_duration
set_option maxHeartbeats 4000000 in
set_option maxRecDepth 100000 in
theorem c_X1_fact (l : Launch) (D : va_G) (cI cJ cC : ClassId) (h0 : Nat) (v0_going v0_track v0_segment v0_rung v0_waiting v0_duration : Int32) (v0_bits v0_received : Int64) (p0 : Int32) (t0 : Int32) (h : f_X1_fact v0_going v0_track v0_segment v0_rung v0_waiting v0_duration p0 = t0) : Met l yX1_fact (Cond.code yX1_fact cX1_fact 2 (some .int) :: TB) rm_X1_fact (PreR D cI cJ cC [(h0, .inr (1, [.int v0_going, .int v0_track, .int v0_segment, .int v0_rung, .int v0_waiting, .int v0_duration, .long v0_bits, .long v0_received]))] [.ref h0, .int p0]) (QR (some (.int t0))) 0 0 free0 := by
  refine metR (own := RX1) (by decide) rfl (Nat.le_of_ble_eq_true rfl) ?_
  intro p e s m below meth c S hr hlk hP hK ls hl
  have hx := S.1
  have hb := S.2.1
  have hl : lv_has ls 2 [(0, .ref h0), (1, .int p0)] := hl
  refine lv_aload_n hx hb dX1_fact_0 rfl (lv_at hl 0 rfl) ?_
  refine gf_X1_7 (v := .int v0_going) S hK hP 0 rfl rfl dX1_fact_1 ?_
  refine lv_if_ne (tgt := 9) hx hb dX1_fact_4 (by decide) (fun c1 => ?_) (fun c1 => ?_)
  · have h := iteN c1 h
    refine lv_iload_n hx hb dX1_fact_9 rfl (lv_at hl 1 rfl) ?_
    by_cases c2 : p0 = 0
    · have h := iteP c2 h
      refine lv_tableIn (off := 30) (tgt := 40) hx hb dX1_fact_10 (by rw [c2]; decide) (by rw [c2]; decide) (by rw [c2]; rfl) (by decide) ?_
      refine lv_aload_n hx hb dX1_fact_40 rfl (lv_at hl 0 rfl) ?_
      refine gf_X1_13 (v := .int v0_track) S hK hP 0 rfl rfl dX1_fact_41 ?_
      subst h
      exact rRi S hr hlk dX1_fact_44
    · have h := iteN c2 h
      by_cases c3 : p0 = 1
      · have h := iteP c3 h
        refine lv_tableIn (off := 35) (tgt := 45) hx hb dX1_fact_10 (by rw [c3]; decide) (by rw [c3]; decide) (by rw [c3]; rfl) (by decide) ?_
        refine lv_aload_n hx hb dX1_fact_45 rfl (lv_at hl 0 rfl) ?_
        refine gf_X1_17 (v := .int v0_segment) S hK hP 0 rfl rfl dX1_fact_46 ?_
        subst h
        exact rRi S hr hlk dX1_fact_49
      · have h := iteN c3 h
        by_cases c4 : p0 = 2
        · have h := iteP c4 h
          refine lv_tableIn (off := 40) (tgt := 50) hx hb dX1_fact_10 (by rw [c4]; decide) (by rw [c4]; decide) (by rw [c4]; rfl) (by decide) ?_
          refine lv_aload_n hx hb dX1_fact_50 rfl (lv_at hl 0 rfl) ?_
          refine gf_X1_20 (v := .int v0_rung) S hK hP 0 rfl rfl dX1_fact_51 ?_
          subst h
          exact rRi S hr hlk dX1_fact_54
        · have h := iteN c4 h
          by_cases c5 : p0 = 3
          · have h := iteP c5 h
            refine lv_tableIn (off := 45) (tgt := 55) hx hb dX1_fact_10 (by rw [c5]; decide) (by rw [c5]; decide) (by rw [c5]; rfl) (by decide) ?_
            refine lv_aload_n hx hb dX1_fact_55 rfl (lv_at hl 0 rfl) ?_
            refine gf_X1_23 (v := .int v0_waiting) S hK hP 0 rfl rfl dX1_fact_56 ?_
            subst h
            exact rRi S hr hlk dX1_fact_59
          · have h := iteN c5 h
            have q6_0 := lv_neT c2 (a := 0) (by decide)
            have q6_1 := lv_neT c3 (a := 1) (by decide)
            have q6_2 := lv_neT c4 (a := 2) (by decide)
            have q6_3 := lv_neT c5 (a := 3) (by decide)
            refine lv_tableOut (tgt := 60) hx hb dX1_fact_10 (by omega) (by decide) ?_
            refine lv_aload_n hx hb dX1_fact_60 rfl (lv_at hl 0 rfl) ?_
            refine gf_X1_26 (v := .int v0_duration) S hK hP 0 rfl rfl dX1_fact_61 ?_
            subst h
            exact rRi S hr hlk dX1_fact_64
  · have h := iteP c1 h
    refine lv_iconst (v := (-1)) hx hb dX1_fact_7 li_m1 ?_
    subst h
    exact rRi S hr hlk dX1_fact_8
abbrev rm_X1_receivedOrNone : Room := { frames := 0, cells := 0, slots := 0, locals := 0 }
theorem dX1_receivedOrNone_0 : decode cX1_receivedOrNone 0 = .ok (.aload_n 0, 1) := by decide +kernel
theorem dX1_receivedOrNone_1 : decode cX1_receivedOrNone 1 = .ok (.getfield 7, 3) := by decide +kernel
theorem dX1_receivedOrNone_4 : decode cX1_receivedOrNone 4 = .ok (.ifCond .eq 10, 3) := by decide +kernel
theorem dX1_receivedOrNone_7 : decode cX1_receivedOrNone 7 = .ok (.aload_n 0, 1) := by decide +kernel
theorem dX1_receivedOrNone_8 : decode cX1_receivedOrNone 8 = .ok (.getfield 33, 3) := by decide +kernel
theorem dX1_receivedOrNone_11 : decode cX1_receivedOrNone 11 = .ok (.goto 6, 3) := by decide +kernel
theorem dX1_receivedOrNone_14 : decode cX1_receivedOrNone 14 = .ok (.ldc2_w 36, 3) := by decide +kernel
theorem dX1_receivedOrNone_17 : decode cX1_receivedOrNone 17 = .ok (.lreturn, 1) := by decide +kernel
def f_X1_receivedOrNone (v0_going : Int32) (v0_received : Int64) : Int64 :=
  if v0_going = 0 then
    (-1)
  else
    v0_received
set_option maxHeartbeats 4000000 in
set_option maxRecDepth 100000 in
theorem c_X1_receivedOrNone (l : Launch) (D : va_G) (cI cJ cC : ClassId) (h0 : Nat) (v0_going v0_track v0_segment v0_rung v0_waiting v0_duration : Int32) (v0_bits v0_received : Int64)  (t0 : Int64) (h : f_X1_receivedOrNone v0_going v0_received = t0) : Met l yX1_receivedOrNone (Cond.code yX1_receivedOrNone cX1_receivedOrNone 1 (some .long) :: TB) rm_X1_receivedOrNone (PreR D cI cJ cC [(h0, .inr (1, [.int v0_going, .int v0_track, .int v0_segment, .int v0_rung, .int v0_waiting, .int v0_duration, .long v0_bits, .long v0_received]))] [.ref h0]) (QR (some (.long t0))) 0 0 free0 := by
  refine metR (own := RX1) (by decide) rfl (Nat.le_of_ble_eq_true rfl) ?_
  intro p e s m below meth c S hr hlk hP hK ls hl
  have hx := S.1
  have hb := S.2.1
  have hl : lv_has ls 1 [(0, .ref h0)] := hl
  refine lv_aload_n hx hb dX1_receivedOrNone_0 rfl (lv_at hl 0 rfl) ?_
  refine gf_X1_7 (v := .int v0_going) S hK hP 0 rfl rfl dX1_receivedOrNone_1 ?_
  refine lv_if_eq (tgt := 14) hx hb dX1_receivedOrNone_4 (by decide) (fun c1 => ?_) (fun c1 => ?_)
  · have h := iteP c1 h
    refine lv_ldc2 (v := (-1)) hx hb S.2.2.2.1 (S.2.2.2.2 _ tb746) dX1_receivedOrNone_14 ?_
    subst h
    exact rRl S hr hlk dX1_receivedOrNone_17
  · have h := iteN c1 h
    refine lv_aload_n hx hb dX1_receivedOrNone_7 rfl (lv_at hl 0 rfl) ?_
    refine gf_X1_33 (v := .long v0_received) S hK hP 0 rfl rfl dX1_receivedOrNone_8 ?_
    refine lv_goto (tgt := 17) hx hb dX1_receivedOrNone_11 (by decide) ?_
    subst h
    exact rRl S hr hlk dX1_receivedOrNone_17
abbrev rm_X1_isWhole : Room := { frames := 0, cells := 0, slots := 0, locals := 0 }
theorem dX1_isWhole_0 : decode cX1_isWhole 0 = .ok (.aload_n 0, 1) := by decide +kernel
theorem dX1_isWhole_1 : decode cX1_isWhole 1 = .ok (.getfield 33, 3) := by decide +kernel
theorem dX1_isWhole_4 : decode cX1_isWhole 4 = .ok (.aload_n 0, 1) := by decide +kernel
theorem dX1_isWhole_5 : decode cX1_isWhole 5 = .ok (.getfield 29, 3) := by decide +kernel
theorem dX1_isWhole_8 : decode cX1_isWhole 8 = .ok (.lcmp, 1) := by decide +kernel
theorem dX1_isWhole_9 : decode cX1_isWhole 9 = .ok (.ifCond .lt 7, 3) := by decide +kernel
theorem dX1_isWhole_12 : decode cX1_isWhole 12 = .ok (.iconst 1, 1) := by decide +kernel
theorem dX1_isWhole_13 : decode cX1_isWhole 13 = .ok (.goto 4, 3) := by decide +kernel
theorem dX1_isWhole_16 : decode cX1_isWhole 16 = .ok (.iconst 0, 1) := by decide +kernel
theorem dX1_isWhole_17 : decode cX1_isWhole 17 = .ok (.ireturn, 1) := by decide +kernel
def f_X1_isWhole (v0_bits v0_received : Int64) : Int32 :=
  if v0_received < v0_bits then
    0
  else
    1
set_option maxHeartbeats 4000000 in
set_option maxRecDepth 100000 in
theorem c_X1_isWhole (l : Launch) (D : va_G) (cI cJ cC : ClassId) (h0 : Nat) (v0_going v0_track v0_segment v0_rung v0_waiting v0_duration : Int32) (v0_bits v0_received : Int64)  (t0 : Int32) (h : f_X1_isWhole v0_bits v0_received = t0) : Met l yX1_isWhole (Cond.code yX1_isWhole cX1_isWhole 1 (some .boolean) :: TB) rm_X1_isWhole (PreR D cI cJ cC [(h0, .inr (1, [.int v0_going, .int v0_track, .int v0_segment, .int v0_rung, .int v0_waiting, .int v0_duration, .long v0_bits, .long v0_received]))] [.ref h0]) (QR (some (.int t0))) 0 0 free0 := by
  refine metR (own := RX1) (by decide) rfl (Nat.le_of_ble_eq_true rfl) ?_
  intro p e s m below meth c S hr hlk hP hK ls hl
  have hx := S.1
  have hb := S.2.1
  have hl : lv_has ls 1 [(0, .ref h0)] := hl
  refine lv_aload_n hx hb dX1_isWhole_0 rfl (lv_at hl 0 rfl) ?_
  refine gf_X1_33 (v := .long v0_received) S hK hP 0 rfl rfl dX1_isWhole_1 ?_
  refine lv_aload_n hx hb dX1_isWhole_4 rfl (lv_at hl 0 rfl) ?_
  refine gf_X1_29 (v := .long v0_bits) S hK hP 0 rfl rfl dX1_isWhole_5 ?_
  refine lc_lt (tgt := 16) hx hb dX1_isWhole_8 dX1_isWhole_9 (by decide) (fun c1 => ?_) (fun c1 => ?_)
  · have h := iteP c1 h
    refine lv_iconst (v := 0) hx hb dX1_isWhole_16 li_0 ?_
    subst h
    exact rRz S hr hlk (by decide) dX1_isWhole_17
  · have h := iteN c1 h
    refine lv_iconst (v := 1) hx hb dX1_isWhole_12 li_1 ?_
    refine lv_goto (tgt := 17) hx hb dX1_isWhole_13 (by decide) ?_
    subst h
    exact rRz S hr hlk (by decide) dX1_isWhole_17
abbrev rm_X1_receiveAt : Room := { frames := 1, cells := 0, slots := 0, locals := 24 }
theorem dX1_receiveAt_0 : decode cX1_receiveAt 0 = .ok (.aload_n 0, 1) := by decide +kernel
theorem dX1_receiveAt_1 : decode cX1_receiveAt 1 = .ok (.dup, 1) := by decide +kernel
theorem dX1_receiveAt_2 : decode cX1_receiveAt 2 = .ok (.getfield 26, 3) := by decide +kernel
theorem dX1_receiveAt_5 : decode cX1_receiveAt 5 = .ok (.iconst 1, 1) := by decide +kernel
theorem dX1_receiveAt_6 : decode cX1_receiveAt 6 = .ok (.iadd, 1) := by decide +kernel
theorem dX1_receiveAt_7 : decode cX1_receiveAt 7 = .ok (.putfield 26, 3) := by decide +kernel
theorem dX1_receiveAt_10 : decode cX1_receiveAt 10 = .ok (.aload_n 0, 1) := by decide +kernel
theorem dX1_receiveAt_11 : decode cX1_receiveAt 11 = .ok (.getfield 23, 3) := by decide +kernel
theorem dX1_receiveAt_14 : decode cX1_receiveAt 14 = .ok (.ifCond .le 16, 3) := by decide +kernel
theorem dX1_receiveAt_17 : decode cX1_receiveAt 17 = .ok (.aload_n 0, 1) := by decide +kernel
theorem dX1_receiveAt_18 : decode cX1_receiveAt 18 = .ok (.dup, 1) := by decide +kernel
theorem dX1_receiveAt_19 : decode cX1_receiveAt 19 = .ok (.getfield 23, 3) := by decide +kernel
theorem dX1_receiveAt_22 : decode cX1_receiveAt 22 = .ok (.iconst 1, 1) := by decide +kernel
theorem dX1_receiveAt_23 : decode cX1_receiveAt 23 = .ok (.isub, 1) := by decide +kernel
theorem dX1_receiveAt_24 : decode cX1_receiveAt 24 = .ok (.putfield 23, 3) := by decide +kernel
theorem dX1_receiveAt_27 : decode cX1_receiveAt 27 = .ok (.goto 26, 3) := by decide +kernel
theorem dX1_receiveAt_30 : decode cX1_receiveAt 30 = .ok (.aload_n 0, 1) := by decide +kernel
theorem dX1_receiveAt_31 : decode cX1_receiveAt 31 = .ok (.dup, 1) := by decide +kernel
theorem dX1_receiveAt_32 : decode cX1_receiveAt 32 = .ok (.getfield 33, 3) := by decide +kernel
theorem dX1_receiveAt_35 : decode cX1_receiveAt 35 = .ok (.iload_n 1, 1) := by decide +kernel
theorem dX1_receiveAt_36 : decode cX1_receiveAt 36 = .ok (.i2l, 1) := by decide +kernel
theorem dX1_receiveAt_37 : decode cX1_receiveAt 37 = .ok (.aload_n 0, 1) := by decide +kernel
theorem dX1_receiveAt_38 : decode cX1_receiveAt 38 = .ok (.getfield 29, 3) := by decide +kernel
theorem dX1_receiveAt_41 : decode cX1_receiveAt 41 = .ok (.aload_n 0, 1) := by decide +kernel
theorem dX1_receiveAt_42 : decode cX1_receiveAt 42 = .ok (.getfield 33, 3) := by decide +kernel
theorem dX1_receiveAt_45 : decode cX1_receiveAt 45 = .ok (.lsub, 1) := by decide +kernel
theorem dX1_receiveAt_46 : decode cX1_receiveAt 46 = .ok (.invokestatic 38, 3) := by decide +kernel
theorem dX1_receiveAt_49 : decode cX1_receiveAt 49 = .ok (.ladd, 1) := by decide +kernel
theorem dX1_receiveAt_50 : decode cX1_receiveAt 50 = .ok (.putfield 33, 3) := by decide +kernel
theorem dX1_receiveAt_53 : decode cX1_receiveAt 53 = .ok (.return_, 1) := by decide +kernel
def f_X1_receiveAt (v0_waiting v0_duration : Int32) (v0_bits v0_received : Int64) (p0 : Int32) : Int32 × Int32 × Int64 :=
  if v0_waiting ≤ 0 then
    bnd (v0_received + (mn64 p0.toInt64 (v0_bits - v0_received))) fun (z2 : Int64) =>
    (v0_waiting, v0_duration + 1, z2)
  else
    (v0_waiting - 1, v0_duration + 1, v0_received)
set_option maxHeartbeats 4000000 in
set_option maxRecDepth 100000 in
theorem c_X1_receiveAt (l : Launch) (D : va_G) (cI cJ cC : ClassId) (h0 : Nat) (v0_going v0_track v0_segment v0_rung v0_waiting v0_duration : Int32) (v0_bits v0_received : Int64) (sz : Nat) (p0 : Int32) (T : Int32 × Int32 × Int64) (h : f_X1_receiveAt v0_waiting v0_duration v0_bits v0_received p0 = T) : Met l yX1_receiveAt (Cond.code yX1_receiveAt cX1_receiveAt 2 none :: TB) rm_X1_receiveAt (PreW D cI cJ cC [(h0, .inr (1, [.int v0_going, .int v0_track, .int v0_segment, .int v0_rung, .int v0_waiting, .int v0_duration, .long v0_bits, .long v0_received]))] sz [.ref h0, .int p0]) (QW none D [(h0, .inr (1, [.int v0_going, .int v0_track, .int v0_segment, .int v0_rung, .int T.1, .int T.2.1, .long v0_bits, .long T.2.2]))] (va_A [(h0, .inr (1, [.int v0_going, .int v0_track, .int v0_segment, .int v0_rung, .int v0_waiting, .int v0_duration, .long v0_bits, .long v0_received]))] sz)) 0 0 (va_A [(h0, .inr (1, [.int v0_going, .int v0_track, .int v0_segment, .int v0_rung, .int v0_waiting, .int v0_duration, .long v0_bits, .long v0_received]))] sz) := by
  refine metW (own := RX1) (by decide) rfl (Nat.le_of_ble_eq_true rfl) ?_
  intro p e s m below meth c S hr hlk hP hK A hAe hD hA hS ls hl
  clear hAe
  have hx := S.1
  have hb := S.2.1
  have hl : lv_has ls 2 [(0, .ref h0), (1, .int p0)] := hl
  refine lv_aload_n hx hb dX1_receiveAt_0 rfl (lv_at hl 0 rfl) ?_
  refine lv_dup hx hb dX1_receiveAt_1 rfl ?_
  refine gf_X1_26 (v := .int v0_duration) S hK hP 0 rfl rfl dX1_receiveAt_2 ?_
  refine lv_iconst (v := 1) hx hb dX1_receiveAt_5 li_1 ?_
  refine lv_iadd hx hb dX1_receiveAt_6 ?_
  refine pf_X1_26 (v := .int (v0_duration + 1)) S hK hP hD hS 0 rfl (Nat.le_of_ble_eq_true rfl) rfl dX1_receiveAt_7 (fun H locs hP hD hS => ?_)
  have hP : va_P D vwCl [(h0, .inr (1, [.int v0_going, .int v0_track, .int v0_segment, .int v0_rung, .int v0_waiting, .int (v0_duration + 1), .long v0_bits, .long v0_received]))] H := hP
  have hD : va_D A [(h0, .inr (1, [.int v0_going, .int v0_track, .int v0_segment, .int v0_rung, .int v0_waiting, .int (v0_duration + 1), .long v0_bits, .long v0_received]))] := hD
  refine lv_aload_n hx hb dX1_receiveAt_10 rfl (lv_at hl 0 rfl) ?_
  refine gf_X1_23 (v := .int v0_waiting) S hK hP 0 rfl rfl dX1_receiveAt_11 ?_
  refine lv_if_le (tgt := 30) hx hb dX1_receiveAt_14 (by decide) (fun c1 => ?_) (fun c1 => ?_)
  · have h := iteP c1 h
    refine lv_aload_n hx hb dX1_receiveAt_30 rfl (lv_at hl 0 rfl) ?_
    refine lv_dup hx hb dX1_receiveAt_31 rfl ?_
    refine gf_X1_33 (v := .long v0_received) S hK hP 0 rfl rfl dX1_receiveAt_32 ?_
    refine lv_iload_n hx hb dX1_receiveAt_35 rfl (lv_at hl 1 rfl) ?_
    refine lv_i2l hx hb dX1_receiveAt_36 rfl ?_
    refine lv_aload_n hx hb dX1_receiveAt_37 rfl (lv_at hl 0 rfl) ?_
    refine gf_X1_29 (v := .long v0_bits) S hK hP 0 rfl rfl dX1_receiveAt_38 ?_
    refine lv_aload_n hx hb dX1_receiveAt_41 rfl (lv_at hl 0 rfl) ?_
    refine gf_X1_33 (v := .long v0_received) S hK hP 0 rfl rfl dX1_receiveAt_42 ?_
    refine lv_lsub hx hb dX1_receiveAt_45 ?_
    refine mn64w S hl.1 tb581 (Nat.le_of_ble_eq_true rfl) (Nat.le_of_ble_eq_true rfl) (Nat.zero_le _) (Nat.zero_le _) dX1_receiveAt_46 ?_
    refine lv_ladd hx hb dX1_receiveAt_49 ?_
    refine lv_topl (fun z2 e_z2 => ?_)
    have h := bnd_eq e_z2.symm h
    refine pf_X1_33 (v := .long z2) S hK hP hD hS 0 rfl (Nat.le_of_ble_eq_true rfl) rfl dX1_receiveAt_50 (fun H locs hP hD hS => ?_)
    have hP : va_P D vwCl [(h0, .inr (1, [.int v0_going, .int v0_track, .int v0_segment, .int v0_rung, .int v0_waiting, .int (v0_duration + 1), .long v0_bits, .long z2]))] H := hP
    have hD : va_D A [(h0, .inr (1, [.int v0_going, .int v0_track, .int v0_segment, .int v0_rung, .int v0_waiting, .int (v0_duration + 1), .long v0_bits, .long z2]))] := hD
    subst h
    exact wRv S hr hlk (hP.sub [0] rfl) (hD.sub [0] (by decide) rfl) hS dX1_receiveAt_53
  · have h := iteN c1 h
    refine lv_aload_n hx hb dX1_receiveAt_17 rfl (lv_at hl 0 rfl) ?_
    refine lv_dup hx hb dX1_receiveAt_18 rfl ?_
    refine gf_X1_23 (v := .int v0_waiting) S hK hP 0 rfl rfl dX1_receiveAt_19 ?_
    refine lv_iconst (v := 1) hx hb dX1_receiveAt_22 li_1 ?_
    refine lv_isub hx hb dX1_receiveAt_23 ?_
    refine pf_X1_23 (v := .int (v0_waiting - 1)) S hK hP hD hS 0 rfl (Nat.le_of_ble_eq_true rfl) rfl dX1_receiveAt_24 (fun H locs hP hD hS => ?_)
    have hP : va_P D vwCl [(h0, .inr (1, [.int v0_going, .int v0_track, .int v0_segment, .int v0_rung, .int (v0_waiting - 1), .int (v0_duration + 1), .long v0_bits, .long v0_received]))] H := hP
    have hD : va_D A [(h0, .inr (1, [.int v0_going, .int v0_track, .int v0_segment, .int v0_rung, .int (v0_waiting - 1), .int (v0_duration + 1), .long v0_bits, .long v0_received]))] := hD
    refine lv_goto (tgt := 53) hx hb dX1_receiveAt_27 (by decide) ?_
    subst h
    exact wRv S hr hlk (hP.sub [0] rfl) (hD.sub [0] (by decide) rfl) hS dX1_receiveAt_53
abbrev rm_X1_timeFor : Room := { frames := 0, cells := 0, slots := 0, locals := 0 }
theorem dX1_timeFor_0 : decode cX1_timeFor 0 = .ok (.aload_n 0, 1) := by decide +kernel
theorem dX1_timeFor_1 : decode cX1_timeFor 1 = .ok (.getfield 33, 3) := by decide +kernel
theorem dX1_timeFor_4 : decode cX1_timeFor 4 = .ok (.lconst 0, 1) := by decide +kernel
theorem dX1_timeFor_5 : decode cX1_timeFor 5 = .ok (.lcmp, 1) := by decide +kernel
theorem dX1_timeFor_6 : decode cX1_timeFor 6 = .ok (.ifCond .gt 5, 3) := by decide +kernel
theorem dX1_timeFor_9 : decode cX1_timeFor 9 = .ok (.lconst 0, 1) := by decide +kernel
theorem dX1_timeFor_10 : decode cX1_timeFor 10 = .ok (.lreturn, 1) := by decide +kernel
theorem dX1_timeFor_11 : decode cX1_timeFor 11 = .ok (.lload_n 1, 1) := by decide +kernel
theorem dX1_timeFor_12 : decode cX1_timeFor 12 = .ok (.aload_n 0, 1) := by decide +kernel
theorem dX1_timeFor_13 : decode cX1_timeFor 13 = .ok (.getfield 26, 3) := by decide +kernel
theorem dX1_timeFor_16 : decode cX1_timeFor 16 = .ok (.i2l, 1) := by decide +kernel
theorem dX1_timeFor_17 : decode cX1_timeFor 17 = .ok (.lmul, 1) := by decide +kernel
theorem dX1_timeFor_18 : decode cX1_timeFor 18 = .ok (.aload_n 0, 1) := by decide +kernel
theorem dX1_timeFor_19 : decode cX1_timeFor 19 = .ok (.getfield 33, 3) := by decide +kernel
theorem dX1_timeFor_22 : decode cX1_timeFor 22 = .ok (.ladd, 1) := by decide +kernel
theorem dX1_timeFor_23 : decode cX1_timeFor 23 = .ok (.lconst 1, 1) := by decide +kernel
theorem dX1_timeFor_24 : decode cX1_timeFor 24 = .ok (.lsub, 1) := by decide +kernel
theorem dX1_timeFor_25 : decode cX1_timeFor 25 = .ok (.aload_n 0, 1) := by decide +kernel
theorem dX1_timeFor_26 : decode cX1_timeFor 26 = .ok (.getfield 33, 3) := by decide +kernel
theorem dX1_timeFor_29 : decode cX1_timeFor 29 = .ok (.ldiv, 1) := by decide +kernel
theorem dX1_timeFor_30 : decode cX1_timeFor 30 = .ok (.lreturn, 1) := by decide +kernel
def f_X1_timeFor (v0_duration : Int32) (v0_received p0 : Int64) : Int64 :=
  if 0 < v0_received then
    (((p0 * v0_duration.toInt64) + v0_received) - 1) / v0_received
  else
    0
set_option maxHeartbeats 4000000 in
set_option maxRecDepth 100000 in
theorem c_X1_timeFor (l : Launch) (D : va_G) (cI cJ cC : ClassId) (h0 : Nat) (v0_going v0_track v0_segment v0_rung v0_waiting v0_duration : Int32) (v0_bits v0_received : Int64) (p0 : Int64) (t0 : Int64) (h : f_X1_timeFor v0_duration v0_received p0 = t0) : Met l yX1_timeFor (Cond.code yX1_timeFor cX1_timeFor 3 (some .long) :: TB) rm_X1_timeFor (PreR D cI cJ cC [(h0, .inr (1, [.int v0_going, .int v0_track, .int v0_segment, .int v0_rung, .int v0_waiting, .int v0_duration, .long v0_bits, .long v0_received]))] [.ref h0, .long p0]) (QR (some (.long t0))) 0 0 free0 := by
  refine metR (own := RX1) (by decide) rfl (Nat.le_of_ble_eq_true rfl) ?_
  intro p e s m below meth c S hr hlk hP hK ls hl
  have hx := S.1
  have hb := S.2.1
  have hl : lv_has ls 3 [(0, .ref h0), (1, .long p0)] := hl
  refine lv_aload_n hx hb dX1_timeFor_0 rfl (lv_at hl 0 rfl) ?_
  refine gf_X1_33 (v := .long v0_received) S hK hP 0 rfl rfl dX1_timeFor_1 ?_
  refine lv_lconst (v := 0) hx hb dX1_timeFor_4 rfl ?_
  refine lc_gt (tgt := 11) hx hb dX1_timeFor_5 dX1_timeFor_6 (by decide) (fun c1 => ?_) (fun c1 => ?_)
  · have h := iteP c1 h
    refine lv_lload_n hx hb dX1_timeFor_11 rfl (lv_at hl 1 rfl) ?_
    refine lv_aload_n hx hb dX1_timeFor_12 rfl (lv_at hl 0 rfl) ?_
    refine gf_X1_26 (v := .int v0_duration) S hK hP 0 rfl rfl dX1_timeFor_13 ?_
    refine lv_i2l hx hb dX1_timeFor_16 rfl ?_
    refine lv_lmul hx hb dX1_timeFor_17 ?_
    refine lv_aload_n hx hb dX1_timeFor_18 rfl (lv_at hl 0 rfl) ?_
    refine gf_X1_33 (v := .long v0_received) S hK hP 0 rfl rfl dX1_timeFor_19 ?_
    refine lv_ladd hx hb dX1_timeFor_22 ?_
    refine lv_lconst (v := 1) hx hb dX1_timeFor_23 rfl ?_
    refine lv_lsub hx hb dX1_timeFor_24 ?_
    refine lv_aload_n hx hb dX1_timeFor_25 rfl (lv_at hl 0 rfl) ?_
    refine gf_X1_33 (v := .long v0_received) S hK hP 0 rfl rfl dX1_timeFor_26 ?_
    refine lv_ldiv hx hb dX1_timeFor_29 (pos_ne64 c1) ?_
    subst h
    exact rRl S hr hlk dX1_timeFor_30
  · have h := iteN c1 h
    refine lv_lconst (v := 0) hx hb dX1_timeFor_9 rfl ?_
    subst h
    exact rRl S hr hlk dX1_timeFor_10
