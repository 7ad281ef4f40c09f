abbrev rm_X0_empty : Room := { frames := 0, cells := 0, slots := 0, locals := 0 }
theorem dX0_empty_0 : decode cX0_empty 0 = .ok (.aload_n 0, 1) := by decide +kernel
theorem dX0_empty_1 : decode cX0_empty 1 = .ok (.iconst 0, 1) := by decide +kernel
theorem dX0_empty_2 : decode cX0_empty 2 = .ok (.putfield 9, 3) := by decide +kernel
theorem dX0_empty_5 : decode cX0_empty 5 = .ok (.aload_n 0, 1) := by decide +kernel
theorem dX0_empty_6 : decode cX0_empty 6 = .ok (.iconst 0, 1) := by decide +kernel
theorem dX0_empty_7 : decode cX0_empty 7 = .ok (.putfield 15, 3) := by decide +kernel
theorem dX0_empty_10 : decode cX0_empty 10 = .ok (.aload_n 0, 1) := by decide +kernel
theorem dX0_empty_11 : decode cX0_empty 11 = .ok (.iconst 0, 1) := by decide +kernel
theorem dX0_empty_12 : decode cX0_empty 12 = .ok (.putfield 18, 3) := by decide +kernel
theorem dX0_empty_15 : decode cX0_empty 15 = .ok (.aload_n 0, 1) := by decide +kernel
theorem dX0_empty_16 : decode cX0_empty 16 = .ok (.iconst 0, 1) := by decide +kernel
theorem dX0_empty_17 : decode cX0_empty 17 = .ok (.putfield 21, 3) := by decide +kernel
theorem dX0_empty_20 : decode cX0_empty 20 = .ok (.aload_n 0, 1) := by decide +kernel
theorem dX0_empty_21 : decode cX0_empty 21 = .ok (.iconst 0, 1) := by decide +kernel
theorem dX0_empty_22 : decode cX0_empty 22 = .ok (.putfield 24, 3) := by decide +kernel
theorem dX0_empty_25 : decode cX0_empty 25 = .ok (.aload_n 0, 1) := by decide +kernel
theorem dX0_empty_26 : decode cX0_empty 26 = .ok (.iconst 0, 1) := by decide +kernel
theorem dX0_empty_27 : decode cX0_empty 27 = .ok (.putfield 27, 3) := by decide +kernel
theorem dX0_empty_30 : decode cX0_empty 30 = .ok (.aload_n 0, 1) := by decide +kernel
theorem dX0_empty_31 : decode cX0_empty 31 = .ok (.iconst 0, 1) := by decide +kernel
theorem dX0_empty_32 : decode cX0_empty 32 = .ok (.putfield 30, 3) := by decide +kernel
theorem dX0_empty_35 : decode cX0_empty 35 = .ok (.aload_n 0, 1) := by decide +kernel
theorem dX0_empty_36 : decode cX0_empty 36 = .ok (.lconst 0, 1) := by decide +kernel
theorem dX0_empty_37 : decode cX0_empty 37 = .ok (.putfield 33, 3) := by decide +kernel
theorem dX0_empty_40 : decode cX0_empty 40 = .ok (.aload_n 0, 1) := by decide +kernel
theorem dX0_empty_41 : decode cX0_empty 41 = .ok (.lconst 0, 1) := by decide +kernel
theorem dX0_empty_42 : decode cX0_empty 42 = .ok (.putfield 37, 3) := by decide +kernel
theorem dX0_empty_45 : decode cX0_empty 45 = .ok (.return_, 1) := by decide +kernel
theorem pf_X0_9 {p : Program} {l : Launch} {e : Env} {R : Room} {s : State} {m : MethodId} {args : Array Value} {below : List Frame} {meth : Method} {c : Code} {H H0 : Heap} {locs : List Loc} {cells slots : Nat} {Q : State → Prop} {cc : ByteArray} {pc nL : Nat} {ls : Array Slot} {rest : List Value} {D : va_G} {ws : va_W} {tys : List (ClassId × FieldType)} {A : Nat → Prop} {x9 : Int32} {v : Value} (S : CallFix p m c cc nL s args TB RX0) (hK : va_K D vwCl tys s) (hP : va_P D vwCl ws H) (hD : va_D A ws) (hS : va_S A H0 H locs) (q0 : Nat) {a : Nat} {fs : List Value} (he : ws[q0]? = some (a, .inr (0, fs))) (hle : 0 < fs.length) (hv9 : v = .int x9) (hdg : decode cc pc = .ok (.putfield 9, 3))
    (kk : ∀ (H1 : Heap) (locs1 : List Loc), va_P D vwCl (ws.set q0 (a, .inr (0, fs.set 0 v))) H1 → va_D A (ws.set q0 (a, .inr (0, fs.set 0 v))) → va_S A H0 H1 locs1 → W p l e R s m args below meth c H1 locs1 cells slots Q (F0 m (pc + 3) ls rest)) : W p l e R s m args below meth c H locs cells slots Q (F0 m pc ls (v :: .ref a :: rest)) := by
  subst hv9
  exact va_put (D := D) (ci := 0) (ty := .int) (C := RX0) (T := TX0) (N := 9) S.1 S.2.1 S.2.2.2.2 iwX0 tyX0 tyX0_ok nmX0 S.2.2.2.1 hK hP hD hS q0 he rfl 0 (by decide) (S.2.2.2.2 _ tb194) (fun _ h9 => h9) rfl (by decide +kernel) rfl rfl hle hdg kk
theorem pf_X0_15 {p : Program} {l : Launch} {e : Env} {R : Room} {s : State} {m : MethodId} {args : Array Value} {below : List Frame} {meth : Method} {c : Code} {H H0 : Heap} {locs : List Loc} {cells slots : Nat} {Q : State → Prop} {cc : ByteArray} {pc nL : Nat} {ls : Array Slot} {rest : List Value} {D : va_G} {ws : va_W} {tys : List (ClassId × FieldType)} {A : Nat → Prop} {x9 : Int32} {v : Value} (S : CallFix p m c cc nL s args TB RX0) (hK : va_K D vwCl tys s) (hP : va_P D vwCl ws H) (hD : va_D A ws) (hS : va_S A H0 H locs) (q0 : Nat) {a : Nat} {fs : List Value} (he : ws[q0]? = some (a, .inr (0, fs))) (hle : 1 < fs.length) (hv9 : v = .int x9) (hdg : decode cc pc = .ok (.putfield 15, 3))
    (kk : ∀ (H1 : Heap) (locs1 : List Loc), va_P D vwCl (ws.set q0 (a, .inr (0, fs.set 1 v))) H1 → va_D A (ws.set q0 (a, .inr (0, fs.set 1 v))) → va_S A H0 H1 locs1 → W p l e R s m args below meth c H1 locs1 cells slots Q (F0 m (pc + 3) ls rest)) : W p l e R s m args below meth c H locs cells slots Q (F0 m pc ls (v :: .ref a :: rest)) := by
  subst hv9
  exact va_put (D := D) (ci := 0) (ty := .int) (C := RX0) (T := TX0) (N := 9) S.1 S.2.1 S.2.2.2.2 iwX0 tyX0 tyX0_ok nmX0 S.2.2.2.1 hK hP hD hS q0 he rfl 1 (by decide) (S.2.2.2.2 _ tb195) (fun _ h9 => h9) rfl (by decide +kernel) rfl rfl hle hdg kk
theorem pf_X0_18 {p : Program} {l : Launch} {e : Env} {R : Room} {s : State} {m : MethodId} {args : Array Value} {below : List Frame} {meth : Method} {c : Code} {H H0 : Heap} {locs : List Loc} {cells slots : Nat} {Q : State → Prop} {cc : ByteArray} {pc nL : Nat} {ls : Array Slot} {rest : List Value} {D : va_G} {ws : va_W} {tys : List (ClassId × FieldType)} {A : Nat → Prop} {x9 : Int32} {v : Value} (S : CallFix p m c cc nL s args TB RX0) (hK : va_K D vwCl tys s) (hP : va_P D vwCl ws H) (hD : va_D A ws) (hS : va_S A H0 H locs) (q0 : Nat) {a : Nat} {fs : List Value} (he : ws[q0]? = some (a, .inr (0, fs))) (hle : 2 < fs.length) (hv9 : v = .int x9) (hdg : decode cc pc = .ok (.putfield 18, 3))
    (kk : ∀ (H1 : Heap) (locs1 : List Loc), va_P D vwCl (ws.set q0 (a, .inr (0, fs.set 2 v))) H1 → va_D A (ws.set q0 (a, .inr (0, fs.set 2 v))) → va_S A H0 H1 locs1 → W p l e R s m args below meth c H1 locs1 cells slots Q (F0 m (pc + 3) ls rest)) : W p l e R s m args below meth c H locs cells slots Q (F0 m pc ls (v :: .ref a :: rest)) := by
  subst hv9
  exact va_put (D := D) (ci := 0) (ty := .int) (C := RX0) (T := TX0) (N := 9) S.1 S.2.1 S.2.2.2.2 iwX0 tyX0 tyX0_ok nmX0 S.2.2.2.1 hK hP hD hS q0 he rfl 2 (by decide) (S.2.2.2.2 _ tb196) (fun _ h9 => h9) rfl (by decide +kernel) rfl rfl hle hdg kk
theorem pf_X0_21 {p : Program} {l : Launch} {e : Env} {R : Room} {s : State} {m : MethodId} {args : Array Value} {below : List Frame} {meth : Method} {c : Code} {H H0 : Heap} {locs : List Loc} {cells slots : Nat} {Q : State → Prop} {cc : ByteArray} {pc nL : Nat} {ls : Array Slot} {rest : List Value} {D : va_G} {ws : va_W} {tys : List (ClassId × FieldType)} {A : Nat → Prop} {x9 : Int32} {v : Value} (S : CallFix p m c cc nL s args TB RX0) (hK : va_K D vwCl tys s) (hP : va_P D vwCl ws H) (hD : va_D A ws) (hS : va_S A H0 H locs) (q0 : Nat) {a : Nat} {fs : List Value} (he : ws[q0]? = some (a, .inr (0, fs))) (hle : 3 < fs.length) (hv9 : v = .int x9) (hdg : decode cc pc = .ok (.putfield 21, 3))
    (kk : ∀ (H1 : Heap) (locs1 : List Loc), va_P D vwCl (ws.set q0 (a, .inr (0, fs.set 3 v))) H1 → va_D A (ws.set q0 (a, .inr (0, fs.set 3 v))) → va_S A H0 H1 locs1 → W p l e R s m args below meth c H1 locs1 cells slots Q (F0 m (pc + 3) ls rest)) : W p l e R s m args below meth c H locs cells slots Q (F0 m pc ls (v :: .ref a :: rest)) := by
  subst hv9
  exact va_put (D := D) (ci := 0) (ty := .int) (C := RX0) (T := TX0) (N := 9) S.1 S.2.1 S.2.2.2.2 iwX0 tyX0 tyX0_ok nmX0 S.2.2.2.1 hK hP hD hS q0 he rfl 3 (by decide) (S.2.2.2.2 _ tb197) (fun _ h9 => h9) rfl (by decide +kernel) rfl rfl hle hdg kk
theorem pf_X0_24 {p : Program} {l : Launch} {e : Env} {R : Room} {s : State} {m : MethodId} {args : Array Value} {below : List Frame} {meth : Method} {c : Code} {H H0 : Heap} {locs : List Loc} {cells slots : Nat} {Q : State → Prop} {cc : ByteArray} {pc nL : Nat} {ls : Array Slot} {rest : List Value} {D : va_G} {ws : va_W} {tys : List (ClassId × FieldType)} {A : Nat → Prop} {x9 : Int32} {v : Value} (S : CallFix p m c cc nL s args TB RX0) (hK : va_K D vwCl tys s) (hP : va_P D vwCl ws H) (hD : va_D A ws) (hS : va_S A H0 H locs) (q0 : Nat) {a : Nat} {fs : List Value} (he : ws[q0]? = some (a, .inr (0, fs))) (hle : 4 < fs.length) (hv9 : v = .int x9) (hdg : decode cc pc = .ok (.putfield 24, 3))
    (kk : ∀ (H1 : Heap) (locs1 : List Loc), va_P D vwCl (ws.set q0 (a, .inr (0, fs.set 4 v))) H1 → va_D A (ws.set q0 (a, .inr (0, fs.set 4 v))) → va_S A H0 H1 locs1 → W p l e R s m args below meth c H1 locs1 cells slots Q (F0 m (pc + 3) ls rest)) : W p l e R s m args below meth c H locs cells slots Q (F0 m pc ls (v :: .ref a :: rest)) := by
  subst hv9
  exact va_put (D := D) (ci := 0) (ty := .int) (C := RX0) (T := TX0) (N := 9) S.1 S.2.1 S.2.2.2.2 iwX0 tyX0 tyX0_ok nmX0 S.2.2.2.1 hK hP hD hS q0 he rfl 4 (by decide) (S.2.2.2.2 _ tb200) (fun _ h9 => h9) rfl (by decide +kernel) rfl rfl hle hdg kk
theorem pf_X0_27 {p : Program} {l : Launch} {e : Env} {R : Room} {s : State} {m : MethodId} {args : Array Value} {below : List Frame} {meth : Method} {c : Code} {H H0 : Heap} {locs : List Loc} {cells slots : Nat} {Q : State → Prop} {cc : ByteArray} {pc nL : Nat} {ls : Array Slot} {rest : List Value} {D : va_G} {ws : va_W} {tys : List (ClassId × FieldType)} {A : Nat → Prop} {x9 : Int32} {v : Value} (S : CallFix p m c cc nL s args TB RX0) (hK : va_K D vwCl tys s) (hP : va_P D vwCl ws H) (hD : va_D A ws) (hS : va_S A H0 H locs) (q0 : Nat) {a : Nat} {fs : List Value} (he : ws[q0]? = some (a, .inr (0, fs))) (hle : 5 < fs.length) (hv9 : v = .int x9) (hdg : decode cc pc = .ok (.putfield 27, 3))
    (kk : ∀ (H1 : Heap) (locs1 : List Loc), va_P D vwCl (ws.set q0 (a, .inr (0, fs.set 5 v))) H1 → va_D A (ws.set q0 (a, .inr (0, fs.set 5 v))) → va_S A H0 H1 locs1 → W p l e R s m args below meth c H1 locs1 cells slots Q (F0 m (pc + 3) ls rest)) : W p l e R s m args below meth c H locs cells slots Q (F0 m pc ls (v :: .ref a :: rest)) := by
  subst hv9
  exact va_put (D := D) (ci := 0) (ty := .int) (C := RX0) (T := TX0) (N := 9) S.1 S.2.1 S.2.2.2.2 iwX0 tyX0 tyX0_ok nmX0 S.2.2.2.1 hK hP hD hS q0 he rfl 5 (by decide) (S.2.2.2.2 _ tb202) (fun _ h9 => h9) rfl (by decide +kernel) rfl rfl hle hdg kk
theorem pf_X0_30 {p : Program} {l : Launch} {e : Env} {R : Room} {s : State} {m : MethodId} {args : Array Value} {below : List Frame} {meth : Method} {c : Code} {H H0 : Heap} {locs : List Loc} {cells slots : Nat} {Q : State → Prop} {cc : ByteArray} {pc nL : Nat} {ls : Array Slot} {rest : List Value} {D : va_G} {ws : va_W} {tys : List (ClassId × FieldType)} {A : Nat → Prop} {x9 : Int32} {v : Value} (S : CallFix p m c cc nL s args TB RX0) (hK : va_K D vwCl tys s) (hP : va_P D vwCl ws H) (hD : va_D A ws) (hS : va_S A H0 H locs) (q0 : Nat) {a : Nat} {fs : List Value} (he : ws[q0]? = some (a, .inr (0, fs))) (hle : 6 < fs.length) (hv9 : v = .int x9) (hdg : decode cc pc = .ok (.putfield 30, 3))
    (kk : ∀ (H1 : Heap) (locs1 : List Loc), va_P D vwCl (ws.set q0 (a, .inr (0, fs.set 6 v))) H1 → va_D A (ws.set q0 (a, .inr (0, fs.set 6 v))) → va_S A H0 H1 locs1 → W p l e R s m args below meth c H1 locs1 cells slots Q (F0 m (pc + 3) ls rest)) : W p l e R s m args below meth c H locs cells slots Q (F0 m pc ls (v :: .ref a :: rest)) := by
  subst hv9
  exact va_put (D := D) (ci := 0) (ty := .int) (C := RX0) (T := TX0) (N := 9) S.1 S.2.1 S.2.2.2.2 iwX0 tyX0 tyX0_ok nmX0 S.2.2.2.1 hK hP hD hS q0 he rfl 6 (by decide) (S.2.2.2.2 _ tb204) (fun _ h9 => h9) rfl (by decide +kernel) rfl rfl hle hdg kk
theorem pf_X0_33 {p : Program} {l : Launch} {e : Env} {R : Room} {s : State} {m : MethodId} {args : Array Value} {below : List Frame} {meth : Method} {c : Code} {H H0 : Heap} {locs : List Loc} {cells slots : Nat} {Q : State → Prop} {cc : ByteArray} {pc nL : Nat} {ls : Array Slot} {rest : List Value} {D : va_G} {ws : va_W} {tys : List (ClassId × FieldType)} {A : Nat → Prop} {x9 : Int64} {v : Value} (S : CallFix p m c cc nL s args TB RX0) (hK : va_K D vwCl tys s) (hP : va_P D vwCl ws H) (hD : va_D A ws) (hS : va_S A H0 H locs) (q0 : Nat) {a : Nat} {fs : List Value} (he : ws[q0]? = some (a, .inr (0, fs))) (hle : 7 < fs.length) (hv9 : v = .long x9) (hdg : decode cc pc = .ok (.putfield 33, 3))
    (kk : ∀ (H1 : Heap) (locs1 : List Loc), va_P D vwCl (ws.set q0 (a, .inr (0, fs.set 7 v))) H1 → va_D A (ws.set q0 (a, .inr (0, fs.set 7 v))) → va_S A H0 H1 locs1 → W p l e R s m args below meth c H1 locs1 cells slots Q (F0 m (pc + 3) ls rest)) : W p l e R s m args below meth c H locs cells slots Q (F0 m pc ls (v :: .ref a :: rest)) := by
  subst hv9
  exact va_put (D := D) (ci := 0) (ty := .long) (C := RX0) (T := TX0) (N := 9) S.1 S.2.1 S.2.2.2.2 iwX0 tyX0 tyX0_ok nmX0 S.2.2.2.1 hK hP hD hS q0 he rfl 7 (by decide) (S.2.2.2.2 _ tb206) (fun _ h9 => h9) rfl (by decide +kernel) rfl rfl hle hdg kk
theorem pf_X0_37 {p : Program} {l : Launch} {e : Env} {R : Room} {s : State} {m : MethodId} {args : Array Value} {below : List Frame} {meth : Method} {c : Code} {H H0 : Heap} {locs : List Loc} {cells slots : Nat} {Q : State → Prop} {cc : ByteArray} {pc nL : Nat} {ls : Array Slot} {rest : List Value} {D : va_G} {ws : va_W} {tys : List (ClassId × FieldType)} {A : Nat → Prop} {x9 : Int64} {v : Value} (S : CallFix p m c cc nL s args TB RX0) (hK : va_K D vwCl tys s) (hP : va_P D vwCl ws H) (hD : va_D A ws) (hS : va_S A H0 H locs) (q0 : Nat) {a : Nat} {fs : List Value} (he : ws[q0]? = some (a, .inr (0, fs))) (hle : 8 < fs.length) (hv9 : v = .long x9) (hdg : decode cc pc = .ok (.putfield 37, 3))
    (kk : ∀ (H1 : Heap) (locs1 : List Loc), va_P D vwCl (ws.set q0 (a, .inr (0, fs.set 8 v))) H1 → va_D A (ws.set q0 (a, .inr (0, fs.set 8 v))) → va_S A H0 H1 locs1 → W p l e R s m args below meth c H1 locs1 cells slots Q (F0 m (pc + 3) ls rest)) : W p l e R s m args below meth c H locs cells slots Q (F0 m pc ls (v :: .ref a :: rest)) := by
  subst hv9
  exact va_put (D := D) (ci := 0) (ty := .long) (C := RX0) (T := TX0) (N := 9) S.1 S.2.1 S.2.2.2.2 iwX0 tyX0 tyX0_ok nmX0 S.2.2.2.1 hK hP hD hS q0 he rfl 8 (by decide) (S.2.2.2.2 _ tb209) (fun _ h9 => h9) rfl (by decide +kernel) rfl rfl hle hdg kk
def f_X0_empty  : Int32 × Int32 × Int32 × Int32 × Int32 × Int32 × Int32 × Int64 × Int64 :=
  (0, 0, 0, 0, 0, 0, 0, 0, 0)
set_option maxHeartbeats 4000000 in
set_option maxRecDepth 100000 in
theorem c_X0_empty (l : Launch) (D : va_G) (cI cJ cC : ClassId) (h0 : Nat) (v0_startUpTime v0_stallTime v0_playTime v0_stalls v0_abandoned v0_finished v0_switches : Int32) (v0_wasted v0_quality : Int64) (sz : Nat)  (T : Int32 × Int32 × Int32 × Int32 × Int32 × Int32 × Int32 × Int64 × Int64) (h : f_X0_empty = T) : Met l yX0_empty (Cond.code yX0_empty cX0_empty 1 none :: TB) rm_X0_empty (PreW D cI cJ cC [(h0, .inr (0, [.int v0_startUpTime, .int v0_stallTime, .int v0_playTime, .int v0_stalls, .int v0_abandoned, .int v0_finished, .int v0_switches, .long v0_wasted, .long v0_quality]))] sz [.ref h0]) (QW none D [(h0, .inr (0, [.int T.1, .int T.2.1, .int T.2.2.1, .int T.2.2.2.1, .int T.2.2.2.2.1, .int T.2.2.2.2.2.1, .int T.2.2.2.2.2.2.1, .long T.2.2.2.2.2.2.2.1, .long T.2.2.2.2.2.2.2.2]))] (va_A [(h0, .inr (0, [.int v0_startUpTime, .int v0_stallTime, .int v0_playTime, .int v0_stalls, .int v0_abandoned, .int v0_finished, .int v0_switches, .long v0_wasted, .long v0_quality]))] sz)) 0 0 (va_A [(h0, .inr (0, [.int v0_startUpTime, .int v0_stallTime, .int v0_playTime, .int v0_stalls, .int v0_abandoned, .int v0_finished, .int v0_switches, .long v0_wasted, .long v0_quality]))] sz) := by
  refine metW (own := RX0) (by decide) rfl (Nat.le_of_ble_eq_true rfl) ?_
  intro p e s m below meth c S hr hlk hP hK A hAe hD hA hS ls hl
  clear hAe
  have hx := S.1
  have hb := S.2.1
  have hl : lv_has ls 1 [(0, .ref h0)] := hl
  refine lv_aload_n hx hb dX0_empty_0 rfl (lv_at hl 0 rfl) ?_
  refine lv_iconst (v := 0) hx hb dX0_empty_1 li_0 ?_
  refine pf_X0_9 (v := .int 0) S hK hP hD hS 0 rfl (Nat.le_of_ble_eq_true rfl) rfl dX0_empty_2 (fun H locs hP hD hS => ?_)
  have hP : va_P D vwCl [(h0, .inr (0, [.int 0, .int v0_stallTime, .int v0_playTime, .int v0_stalls, .int v0_abandoned, .int v0_finished, .int v0_switches, .long v0_wasted, .long v0_quality]))] H := hP
  have hD : va_D A [(h0, .inr (0, [.int 0, .int v0_stallTime, .int v0_playTime, .int v0_stalls, .int v0_abandoned, .int v0_finished, .int v0_switches, .long v0_wasted, .long v0_quality]))] := hD
  refine lv_aload_n hx hb dX0_empty_5 rfl (lv_at hl 0 rfl) ?_
  refine lv_iconst (v := 0) hx hb dX0_empty_6 li_0 ?_
  refine pf_X0_15 (v := .int 0) S hK hP hD hS 0 rfl (Nat.le_of_ble_eq_true rfl) rfl dX0_empty_7 (fun H locs hP hD hS => ?_)
  have hP : va_P D vwCl [(h0, .inr (0, [.int 0, .int 0, .int v0_playTime, .int v0_stalls, .int v0_abandoned, .int v0_finished, .int v0_switches, .long v0_wasted, .long v0_quality]))] H := hP
  have hD : va_D A [(h0, .inr (0, [.int 0, .int 0, .int v0_playTime, .int v0_stalls, .int v0_abandoned, .int v0_finished, .int v0_switches, .long v0_wasted, .long v0_quality]))] := hD
  refine lv_aload_n hx hb dX0_empty_10 rfl (lv_at hl 0 rfl) ?_
  refine lv_iconst (v := 0) hx hb dX0_empty_11 li_0 ?_
  refine pf_X0_18 (v := .int 0) S hK hP hD hS 0 rfl (Nat.le_of_ble_eq_true rfl) rfl dX0_empty_12 (fun H locs hP hD hS => ?_)
  have hP : va_P D vwCl [(h0, .inr (0, [.int 0, .int 0, .int 0, .int v0_stalls, .int v0_abandoned, .int v0_finished, .int v0_switches, .long v0_wasted, .long v0_quality]))] H := hP
  have hD : va_D A [(h0, .inr (0, [.int 0, .int 0, .int 0, .int v0_stalls, .int v0_abandoned, .int v0_finished, .int v0_switches, .long v0_wasted, .long v0_quality]))] := hD
  refine lv_aload_n hx hb dX0_empty_15 rfl (lv_at hl 0 rfl) ?_
  refine lv_iconst (v := 0) hx hb dX0_empty_16 li_0 ?_
  refine pf_X0_21 (v := .int 0) S hK hP hD hS 0 rfl (Nat.le_of_ble_eq_true rfl) rfl dX0_empty_17 (fun H locs hP hD hS => ?_)
  have hP : va_P D vwCl [(h0, .inr (0, [.int 0, .int 0, .int 0, .int 0, .int v0_abandoned, .int v0_finished, .int v0_switches, .long v0_wasted, .long v0_quality]))] H := hP
  have hD : va_D A [(h0, .inr (0, [.int 0, .int 0, .int 0, .int 0, .int v0_abandoned, .int v0_finished, .int v0_switches, .long v0_wasted, .long v0_quality]))] := hD
  refine lv_aload_n hx hb dX0_empty_20 rfl (lv_at hl 0 rfl) ?_
  refine lv_iconst (v := 0) hx hb dX0_empty_21 li_0 ?_
  refine pf_X0_24 (v := .int 0) S hK hP hD hS 0 rfl (Nat.le_of_ble_eq_true rfl) rfl dX0_empty_22 (fun H locs hP hD hS => ?_)
  have hP : va_P D vwCl [(h0, .inr (0, [.int 0, .int 0, .int 0, .int 0, .int 0, .int v0_finished, .int v0_switches, .long v0_wasted, .long v0_quality]))] H := hP
  have hD : va_D A [(h0, .inr (0, [.int 0, .int 0, .int 0, .int 0, .int 0, .int v0_finished, .int v0_switches, .long v0_wasted, .long v0_quality]))] := hD
  refine lv_aload_n hx hb dX0_empty_25 rfl (lv_at hl 0 rfl) ?_
  refine lv_iconst (v := 0) hx hb dX0_empty_26 li_0 ?_
  refine pf_X0_27 (v := .int 0) S hK hP hD hS 0 rfl (Nat.le_of_ble_eq_true rfl) rfl dX0_empty_27 (fun H locs hP hD hS => ?_)
  have hP : va_P D vwCl [(h0, .inr (0, [.int 0, .int 0, .int 0, .int 0, .int 0, .int 0, .int v0_switches, .long v0_wasted, .long v0_quality]))] H := hP
  have hD : va_D A [(h0, .inr (0, [.int 0, .int 0, .int 0, .int 0, .int 0, .int 0, .int v0_switches, .long v0_wasted, .long v0_quality]))] := hD
  refine lv_aload_n hx hb dX0_empty_30 rfl (lv_at hl 0 rfl) ?_
  refine lv_iconst (v := 0) hx hb dX0_empty_31 li_0 ?_
  refine pf_X0_30 (v := .int 0) S hK hP hD hS 0 rfl (Nat.le_of_ble_eq_true rfl) rfl dX0_empty_32 (fun H locs hP hD hS => ?_)
  have hP : va_P D vwCl [(h0, .inr (0, [.int 0, .int 0, .int 0, .int 0, .int 0, .int 0, .int 0, .long v0_wasted, .long v0_quality]))] H := hP
  have hD : va_D A [(h0, .inr (0, [.int 0, .int 0, .int 0, .int 0, .int 0, .int 0, .int 0, .long v0_wasted, .long v0_quality]))] := hD
  refine lv_aload_n hx hb dX0_empty_35 rfl (lv_at hl 0 rfl) ?_
  refine lv_lconst (v := 0) hx hb dX0_empty_36 rfl ?_
  refine pf_X0_33 (v := .long 0) S hK hP hD hS 0 rfl (Nat.le_of_ble_eq_true rfl) rfl dX0_empty_37 (fun H locs hP hD hS => ?_)
  have hP : va_P D vwCl [(h0, .inr (0, [.int 0, .int 0, .int 0, .int 0, .int 0, .int 0, .int 0, .long 0, .long v0_quality]))] H := hP
  have hD : va_D A [(h0, .inr (0, [.int 0, .int 0, .int 0, .int 0, .int 0, .int 0, .int 0, .long 0, .long v0_quality]))] := hD
  refine lv_aload_n hx hb dX0_empty_40 rfl (lv_at hl 0 rfl) ?_
  refine lv_lconst (v := 0) hx hb dX0_empty_41 rfl ?_
  refine pf_X0_37 (v := .long 0) S hK hP hD hS 0 rfl (Nat.le_of_ble_eq_true rfl) rfl dX0_empty_42 (fun H locs hP hD hS => ?_)
  have hP : va_P D vwCl [(h0, .inr (0, [.int 0, .int 0, .int 0, .int 0, .int 0, .int 0, .int 0, .long 0, .long 0]))] H := hP
  have hD : va_D A [(h0, .inr (0, [.int 0, .int 0, .int 0, .int 0, .int 0, .int 0, .int 0, .long 0, .long 0]))] := hD
  subst h
  exact wRv S hr hlk (hP.sub [0] rfl) (hD.sub [0] (by decide) rfl) hS dX0_empty_45
abbrev rm_X0_copyFrom : Room := { frames := 0, cells := 0, slots := 0, locals := 0 }
theorem dX0_copyFrom_0 : decode cX0_copyFrom 0 = .ok (.aload_n 0, 1) := by decide +kernel
theorem dX0_copyFrom_1 : decode cX0_copyFrom 1 = .ok (.aload_n 1, 1) := by decide +kernel
theorem dX0_copyFrom_2 : decode cX0_copyFrom 2 = .ok (.getfield 9, 3) := by decide +kernel
theorem dX0_copyFrom_5 : decode cX0_copyFrom 5 = .ok (.putfield 9, 3) := by decide +kernel
theorem dX0_copyFrom_8 : decode cX0_copyFrom 8 = .ok (.aload_n 0, 1) := by decide +kernel
theorem dX0_copyFrom_9 : decode cX0_copyFrom 9 = .ok (.aload_n 1, 1) := by decide +kernel
theorem dX0_copyFrom_10 : decode cX0_copyFrom 10 = .ok (.getfield 15, 3) := by decide +kernel
theorem dX0_copyFrom_13 : decode cX0_copyFrom 13 = .ok (.putfield 15, 3) := by decide +kernel
theorem dX0_copyFrom_16 : decode cX0_copyFrom 16 = .ok (.aload_n 0, 1) := by decide +kernel
theorem dX0_copyFrom_17 : decode cX0_copyFrom 17 = .ok (.aload_n 1, 1) := by decide +kernel
theorem dX0_copyFrom_18 : decode cX0_copyFrom 18 = .ok (.getfield 18, 3) := by decide +kernel
theorem dX0_copyFrom_21 : decode cX0_copyFrom 21 = .ok (.putfield 18, 3) := by decide +kernel
theorem dX0_copyFrom_24 : decode cX0_copyFrom 24 = .ok (.aload_n 0, 1) := by decide +kernel
theorem dX0_copyFrom_25 : decode cX0_copyFrom 25 = .ok (.aload_n 1, 1) := by decide +kernel
theorem dX0_copyFrom_26 : decode cX0_copyFrom 26 = .ok (.getfield 21, 3) := by decide +kernel
theorem dX0_copyFrom_29 : decode cX0_copyFrom 29 = .ok (.putfield 21, 3) := by decide +kernel
theorem dX0_copyFrom_32 : decode cX0_copyFrom 32 = .ok (.aload_n 0, 1) := by decide +kernel
theorem dX0_copyFrom_33 : decode cX0_copyFrom 33 = .ok (.aload_n 1, 1) := by decide +kernel
theorem dX0_copyFrom_34 : decode cX0_copyFrom 34 = .ok (.getfield 24, 3) := by decide +kernel
theorem dX0_copyFrom_37 : decode cX0_copyFrom 37 = .ok (.putfield 24, 3) := by decide +kernel
theorem dX0_copyFrom_40 : decode cX0_copyFrom 40 = .ok (.aload_n 0, 1) := by decide +kernel
theorem dX0_copyFrom_41 : decode cX0_copyFrom 41 = .ok (.aload_n 1, 1) := by decide +kernel
theorem dX0_copyFrom_42 : decode cX0_copyFrom 42 = .ok (.getfield 27, 3) := by decide +kernel
theorem dX0_copyFrom_45 : decode cX0_copyFrom 45 = .ok (.putfield 27, 3) := by decide +kernel
theorem dX0_copyFrom_48 : decode cX0_copyFrom 48 = .ok (.aload_n 0, 1) := by decide +kernel
theorem dX0_copyFrom_49 : decode cX0_copyFrom 49 = .ok (.aload_n 1, 1) := by decide +kernel
theorem dX0_copyFrom_50 : decode cX0_copyFrom 50 = .ok (.getfield 30, 3) := by decide +kernel
theorem dX0_copyFrom_53 : decode cX0_copyFrom 53 = .ok (.putfield 30, 3) := by decide +kernel
theorem dX0_copyFrom_56 : decode cX0_copyFrom 56 = .ok (.aload_n 0, 1) := by decide +kernel
theorem dX0_copyFrom_57 : decode cX0_copyFrom 57 = .ok (.aload_n 1, 1) := by decide +kernel
theorem dX0_copyFrom_58 : decode cX0_copyFrom 58 = .ok (.getfield 33, 3) := by decide +kernel
theorem dX0_copyFrom_61 : decode cX0_copyFrom 61 = .ok (.putfield 33, 3) := by decide +kernel
theorem dX0_copyFrom_64 : decode cX0_copyFrom 64 = .ok (.aload_n 0, 1) := by decide +kernel
theorem dX0_copyFrom_65 : decode cX0_copyFrom 65 = .ok (.aload_n 1, 1) := by decide +kernel
theorem dX0_copyFrom_66 : decode cX0_copyFrom 66 = .ok (.getfield 37, 3) := by decide +kernel
theorem dX0_copyFrom_69 : decode cX0_copyFrom 69 = .ok (.putfield 37, 3) := by decide +kernel
theorem dX0_copyFrom_72 : decode cX0_copyFrom 72 = .ok (.return_, 1) := by decide +kernel
theorem gf_X0_9 {p : Program} {l : Launch} {e : Env} {R : Room} {s : State} {m : MethodId} {args : Array Value} {below : List Frame} {meth : Method} {c : Code} {H : Heap} {locs : List Loc} {cells slots : Nat} {Q : State → Prop} {cc : ByteArray} {pc nL : Nat} {ls : Array Slot} {rest : List Value} {D : va_G} {ws : va_W} {tys : List (ClassId × FieldType)} (S : CallFix p m c cc nL s args TB RX0) (hK : va_K D vwCl tys s) (hP : va_P D vwCl ws H) (q0 : Nat) {a : Nat} {fs : List Value} (he : ws[q0]? = some (a, .inr (0, fs))) {v : Value} (hv : fs[0]? = some v) (hdg : decode cc pc = .ok (.getfield 9, 3))
    (kk : W p l e R s m args below meth c H locs cells slots Q (F0 m (pc + 3) ls (v :: rest))) : W p l e R s m args below meth c H locs cells slots Q (F0 m pc ls (.ref a :: rest)) :=
  va_get (D := D) (ci := 0) (C := RX0) (T := TX0) (N := 9) S.1 S.2.1 S.2.2.2.2 iwX0 S.2.2.2.1 hK hP q0 he rfl 0 (by decide) (S.2.2.2.2 _ tb194) (fun _ h9 => h9) hv hdg kk
theorem gf_X0_15 {p : Program} {l : Launch} {e : Env} {R : Room} {s : State} {m : MethodId} {args : Array Value} {below : List Frame} {meth : Method} {c : Code} {H : Heap} {locs : List Loc} {cells slots : Nat} {Q : State → Prop} {cc : ByteArray} {pc nL : Nat} {ls : Array Slot} {rest : List Value} {D : va_G} {ws : va_W} {tys : List (ClassId × FieldType)} (S : CallFix p m c cc nL s args TB RX0) (hK : va_K D vwCl tys s) (hP : va_P D vwCl ws H) (q0 : Nat) {a : Nat} {fs : List Value} (he : ws[q0]? = some (a, .inr (0, fs))) {v : Value} (hv : fs[1]? = some v) (hdg : decode cc pc = .ok (.getfield 15, 3))
    (kk : W p l e R s m args below meth c H locs cells slots Q (F0 m (pc + 3) ls (v :: rest))) : W p l e R s m args below meth c H locs cells slots Q (F0 m pc ls (.ref a :: rest)) :=
  va_get (D := D) (ci := 0) (C := RX0) (T := TX0) (N := 9) S.1 S.2.1 S.2.2.2.2 iwX0 S.2.2.2.1 hK hP q0 he rfl 1 (by decide) (S.2.2.2.2 _ tb195) (fun _ h9 => h9) hv hdg kk
theorem gf_X0_18 {p : Program} {l : Launch} {e : Env} {R : Room} {s : State} {m : MethodId} {args : Array Value} {below : List Frame} {meth : Method} {c : Code} {H : Heap} {locs : List Loc} {cells slots : Nat} {Q : State → Prop} {cc : ByteArray} {pc nL : Nat} {ls : Array Slot} {rest : List Value} {D : va_G} {ws : va_W} {tys : List (ClassId × FieldType)} (S : CallFix p m c cc nL s args TB RX0) (hK : va_K D vwCl tys s) (hP : va_P D vwCl ws H) (q0 : Nat) {a : Nat} {fs : List Value} (he : ws[q0]? = some (a, .inr (0, fs))) {v : Value} (hv : fs[2]? = some v) (hdg : decode cc pc = .ok (.getfield 18, 3))
    (kk : W p l e R s m args below meth c H locs cells slots Q (F0 m (pc + 3) ls (v :: rest))) : W p l e R s m args below meth c H locs cells slots Q (F0 m pc ls (.ref a :: rest)) :=
  va_get (D := D) (ci := 0) (C := RX0) (T := TX0) (N := 9) S.1 S.2.1 S.2.2.2.2 iwX0 S.2.2.2.1 hK hP q0 he rfl 2 (by decide) (S.2.2.2.2 _ tb196) (fun _ h9 => h9) hv hdg kk
theorem gf_X0_21 {p : Program} {l : Launch} {e : Env} {R : Room} {s : State} {m : MethodId} {args : Array Value} {below : List Frame} {meth : Method} {c : Code} {H : Heap} {locs : List Loc} {cells slots : Nat} {Q : State → Prop} {cc : ByteArray} {pc nL : Nat} {ls : Array Slot} {rest : List Value} {D : va_G} {ws : va_W} {tys : List (ClassId × FieldType)} (S : CallFix p m c cc nL s args TB RX0) (hK : va_K D vwCl tys s) (hP : va_P D vwCl ws H) (q0 : Nat) {a : Nat} {fs : List Value} (he : ws[q0]? = some (a, .inr (0, fs))) {v : Value} (hv : fs[3]? = some v) (hdg : decode cc pc = .ok (.getfield 21, 3))
    (kk : W p l e R s m args below meth c H locs cells slots Q (F0 m (pc + 3) ls (v :: rest))) : W p l e R s m args below meth c H locs cells slots Q (F0 m pc ls (.ref a :: rest)) :=
  va_get (D := D) (ci := 0) (C := RX0) (T := TX0) (N := 9) S.1 S.2.1 S.2.2.2.2 iwX0 S.2.2.2.1 hK hP q0 he rfl 3 (by decide) (S.2.2.2.2 _ tb197) (fun _ h9 => h9) hv hdg kk
theorem gf_X0_24 {p : Program} {l : Launch} {e : Env} {R : Room} {s : State} {m : MethodId} {args : Array Value} {below : List Frame} {meth : Method} {c : Code} {H : Heap} {locs : List Loc} {cells slots : Nat} {Q : State → Prop} {cc : ByteArray} {pc nL : Nat} {ls : Array Slot} {rest : List Value} {D : va_G} {ws : va_W} {tys : List (ClassId × FieldType)} (S : CallFix p m c cc nL s args TB RX0) (hK : va_K D vwCl tys s) (hP : va_P D vwCl ws H) (q0 : Nat) {a : Nat} {fs : List Value} (he : ws[q0]? = some (a, .inr (0, fs))) {v : Value} (hv : fs[4]? = some v) (hdg : decode cc pc = .ok (.getfield 24, 3))
    (kk : W p l e R s m args below meth c H locs cells slots Q (F0 m (pc + 3) ls (v :: rest))) : W p l e R s m args below meth c H locs cells slots Q (F0 m pc ls (.ref a :: rest)) :=
  va_get (D := D) (ci := 0) (C := RX0) (T := TX0) (N := 9) S.1 S.2.1 S.2.2.2.2 iwX0 S.2.2.2.1 hK hP q0 he rfl 4 (by decide) (S.2.2.2.2 _ tb200) (fun _ h9 => h9) hv hdg kk
theorem gf_X0_27 {p : Program} {l : Launch} {e : Env} {R : Room} {s : State} {m : MethodId} {args : Array Value} {below : List Frame} {meth : Method} {c : Code} {H : Heap} {locs : List Loc} {cells slots : Nat} {Q : State → Prop} {cc : ByteArray} {pc nL : Nat} {ls : Array Slot} {rest : List Value} {D : va_G} {ws : va_W} {tys : List (ClassId × FieldType)} (S : CallFix p m c cc nL s args TB RX0) (hK : va_K D vwCl tys s) (hP : va_P D vwCl ws H) (q0 : Nat) {a : Nat} {fs : List Value} (he : ws[q0]? = some (a, .inr (0, fs))) {v : Value} (hv : fs[5]? = some v) (hdg : decode cc pc = .ok (.getfield 27, 3))
    (kk : W p l e R s m args below meth c H locs cells slots Q (F0 m (pc + 3) ls (v :: rest))) : W p l e R s m args below meth c H locs cells slots Q (F0 m pc ls (.ref a :: rest)) :=
  va_get (D := D) (ci := 0) (C := RX0) (T := TX0) (N := 9) S.1 S.2.1 S.2.2.2.2 iwX0 S.2.2.2.1 hK hP q0 he rfl 5 (by decide) (S.2.2.2.2 _ tb202) (fun _ h9 => h9) hv hdg kk
theorem gf_X0_30 {p : Program} {l : Launch} {e : Env} {R : Room} {s : State} {m : MethodId} {args : Array Value} {below : List Frame} {meth : Method} {c : Code} {H : Heap} {locs : List Loc} {cells slots : Nat} {Q : State → Prop} {cc : ByteArray} {pc nL : Nat} {ls : Array Slot} {rest : List Value} {D : va_G} {ws : va_W} {tys : List (ClassId × FieldType)} (S : CallFix p m c cc nL s args TB RX0) (hK : va_K D vwCl tys s) (hP : va_P D vwCl ws H) (q0 : Nat) {a : Nat} {fs : List Value} (he : ws[q0]? = some (a, .inr (0, fs))) {v : Value} (hv : fs[6]? = some v) (hdg : decode cc pc = .ok (.getfield 30, 3))
    (kk : W p l e R s m args below meth c H locs cells slots Q (F0 m (pc + 3) ls (v :: rest))) : W p l e R s m args below meth c H locs cells slots Q (F0 m pc ls (.ref a :: rest)) :=
  va_get (D := D) (ci := 0) (C := RX0) (T := TX0) (N := 9) S.1 S.2.1 S.2.2.2.2 iwX0 S.2.2.2.1 hK hP q0 he rfl 6 (by decide) (S.2.2.2.2 _ tb204) (fun _ h9 => h9) hv hdg kk
theorem gf_X0_33 {p : Program} {l : Launch} {e : Env} {R : Room} {s : State} {m : MethodId} {args : Array Value} {below : List Frame} {meth : Method} {c : Code} {H : Heap} {locs : List Loc} {cells slots : Nat} {Q : State → Prop} {cc : ByteArray} {pc nL : Nat} {ls : Array Slot} {rest : List Value} {D : va_G} {ws : va_W} {tys : List (ClassId × FieldType)} (S : CallFix p m c cc nL s args TB RX0) (hK : va_K D vwCl tys s) (hP : va_P D vwCl ws H) (q0 : Nat) {a : Nat} {fs : List Value} (he : ws[q0]? = some (a, .inr (0, fs))) {v : Value} (hv : fs[7]? = some v) (hdg : decode cc pc = .ok (.getfield 33, 3))
    (kk : W p l e R s m args below meth c H locs cells slots Q (F0 m (pc + 3) ls (v :: rest))) : W p l e R s m args below meth c H locs cells slots Q (F0 m pc ls (.ref a :: rest)) :=
  va_get (D := D) (ci := 0) (C := RX0) (T := TX0) (N := 9) S.1 S.2.1 S.2.2.2.2 iwX0 S.2.2.2.1 hK hP q0 he rfl 7 (by decide) (S.2.2.2.2 _ tb206) (fun _ h9 => h9) hv hdg kk
theorem gf_X0_37 {p : Program} {l : Launch} {e : Env} {R : Room} {s : State} {m : MethodId} {args : Array Value} {below : List Frame} {meth : Method} {c : Code} {H : Heap} {locs : List Loc} {cells slots : Nat} {Q : State → Prop} {cc : ByteArray} {pc nL : Nat} {ls : Array Slot} {rest : List Value} {D : va_G} {ws : va_W} {tys : List (ClassId × FieldType)} (S : CallFix p m c cc nL s args TB RX0) (hK : va_K D vwCl tys s) (hP : va_P D vwCl ws H) (q0 : Nat) {a : Nat} {fs : List Value} (he : ws[q0]? = some (a, .inr (0, fs))) {v : Value} (hv : fs[8]? = some v) (hdg : decode cc pc = .ok (.getfield 37, 3))
    (kk : W p l e R s m args below meth c H locs cells slots Q (F0 m (pc + 3) ls (v :: rest))) : W p l e R s m args below meth c H locs cells slots Q (F0 m pc ls (.ref a :: rest)) :=
  va_get (D := D) (ci := 0) (C := RX0) (T := TX0) (N := 9) S.1 S.2.1 S.2.2.2.2 iwX0 S.2.2.2.1 hK hP q0 he rfl 8 (by decide) (S.2.2.2.2 _ tb209) (fun _ h9 => h9) hv hdg kk
def f_X0_copyFrom (v1_startUpTime v1_stallTime v1_playTime v1_stalls v1_abandoned v1_finished v1_switches : Int32) (v1_wasted v1_quality : Int64) : Int32 × Int32 × Int32 × Int32 × Int32 × Int32 × Int32 × Int64 × Int64 :=
  (v1_startUpTime, v1_stallTime, v1_playTime, v1_stalls, v1_abandoned, v1_finished, v1_switches, v1_wasted, v1_quality)
set_option maxHeartbeats 4000000 in
set_option maxRecDepth 100000 in
theorem c_X0_copyFrom (l : Launch) (D : va_G) (cI cJ cC : ClassId) (h0 h1 : Nat) (v0_startUpTime v0_stallTime v0_playTime v0_stalls v0_abandoned v0_finished v0_switches : Int32) (v0_wasted v0_quality : Int64) (v1_startUpTime v1_stallTime v1_playTime v1_stalls v1_abandoned v1_finished v1_switches : Int32) (v1_wasted v1_quality : Int64) (sz : Nat)  (T : Int32 × Int32 × Int32 × Int32 × Int32 × Int32 × Int32 × Int64 × Int64) (h : f_X0_copyFrom v1_startUpTime v1_stallTime v1_playTime v1_stalls v1_abandoned v1_finished v1_switches v1_wasted v1_quality = T) : Met l yX0_copyFrom (Cond.code yX0_copyFrom cX0_copyFrom 2 none :: TB) rm_X0_copyFrom (PreW D cI cJ cC [(h0, .inr (0, [.int v0_startUpTime, .int v0_stallTime, .int v0_playTime, .int v0_stalls, .int v0_abandoned, .int v0_finished, .int v0_switches, .long v0_wasted, .long v0_quality])), (h1, .inr (0, [.int v1_startUpTime, .int v1_stallTime, .int v1_playTime, .int v1_stalls, .int v1_abandoned, .int v1_finished, .int v1_switches, .long v1_wasted, .long v1_quality]))] sz [.ref h0, .ref h1]) (QW none D [(h0, .inr (0, [.int T.1, .int T.2.1, .int T.2.2.1, .int T.2.2.2.1, .int T.2.2.2.2.1, .int T.2.2.2.2.2.1, .int T.2.2.2.2.2.2.1, .long T.2.2.2.2.2.2.2.1, .long T.2.2.2.2.2.2.2.2])), (h1, .inr (0, [.int v1_startUpTime, .int v1_stallTime, .int v1_playTime, .int v1_stalls, .int v1_abandoned, .int v1_finished, .int v1_switches, .long v1_wasted, .long v1_quality]))] (va_A [(h0, .inr (0, [.int v0_startUpTime, .int v0_stallTime, .int v0_playTime, .int v0_stalls, .int v0_abandoned, .int v0_finished, .int v0_switches, .long v0_wasted, .long v0_quality])), (h1, .inr (0, [.int v1_startUpTime, .int v1_stallTime, .int v1_playTime, .int v1_stalls, .int v1_abandoned, .int v1_finished, .int v1_switches, .long v1_wasted, .long v1_quality]))] sz)) 0 0 (va_A [(h0, .inr (0, [.int v0_startUpTime, .int v0_stallTime, .int v0_playTime, .int v0_stalls, .int v0_abandoned, .int v0_finished, .int v0_switches, .long v0_wasted, .long v0_quality])), (h1, .inr (0, [.int v1_startUpTime, .int v1_stallTime, .int v1_playTime, .int v1_stalls, .int v1_abandoned, .int v1_finished, .int v1_switches, .long v1_wasted, .long v1_quality]))] sz) := by
  refine metW (own := RX0) (by decide) rfl (Nat.le_of_ble_eq_true rfl) ?_
  intro p e s m below meth c S hr hlk hP hK A hAe hD hA hS ls hl
  clear hAe
  have hx := S.1
  have hb := S.2.1
  have hl : lv_has ls 2 [(0, .ref h0), (1, .ref h1)] := hl
  refine lv_aload_n hx hb dX0_copyFrom_0 rfl (lv_at hl 0 rfl) ?_
  refine lv_aload_n hx hb dX0_copyFrom_1 rfl (lv_at hl 1 rfl) ?_
  refine gf_X0_9 (v := .int v1_startUpTime) S hK hP 1 rfl rfl dX0_copyFrom_2 ?_
  refine pf_X0_9 (v := .int v1_startUpTime) S hK hP hD hS 0 rfl (Nat.le_of_ble_eq_true rfl) rfl dX0_copyFrom_5 (fun H locs hP hD hS => ?_)
  have hP : va_P D vwCl [(h0, .inr (0, [.int v1_startUpTime, .int v0_stallTime, .int v0_playTime, .int v0_stalls, .int v0_abandoned, .int v0_finished, .int v0_switches, .long v0_wasted, .long v0_quality])), (h1, .inr (0, [.int v1_startUpTime, .int v1_stallTime, .int v1_playTime, .int v1_stalls, .int v1_abandoned, .int v1_finished, .int v1_switches, .long v1_wasted, .long v1_quality]))] H := hP
  have hD : va_D A [(h0, .inr (0, [.int v1_startUpTime, .int v0_stallTime, .int v0_playTime, .int v0_stalls, .int v0_abandoned, .int v0_finished, .int v0_switches, .long v0_wasted, .long v0_quality])), (h1, .inr (0, [.int v1_startUpTime, .int v1_stallTime, .int v1_playTime, .int v1_stalls, .int v1_abandoned, .int v1_finished, .int v1_switches, .long v1_wasted, .long v1_quality]))] := hD
  refine lv_aload_n hx hb dX0_copyFrom_8 rfl (lv_at hl 0 rfl) ?_
  refine lv_aload_n hx hb dX0_copyFrom_9 rfl (lv_at hl 1 rfl) ?_
  refine gf_X0_15 (v := .int v1_stallTime) S hK hP 1 rfl rfl dX0_copyFrom_10 ?_
  refine pf_X0_15 (v := .int v1_stallTime) S hK hP hD hS 0 rfl (Nat.le_of_ble_eq_true rfl) rfl dX0_copyFrom_13 (fun H locs hP hD hS => ?_)
  have hP : va_P D vwCl [(h0, .inr (0, [.int v1_startUpTime, .int v1_stallTime, .int v0_playTime, .int v0_stalls, .int v0_abandoned, .int v0_finished, .int v0_switches, .long v0_wasted, .long v0_quality])), (h1, .inr (0, [.int v1_startUpTime, .int v1_stallTime, .int v1_playTime, .int v1_stalls, .int v1_abandoned, .int v1_finished, .int v1_switches, .long v1_wasted, .long v1_quality]))] H := hP
  have hD : va_D A [(h0, .inr (0, [.int v1_startUpTime, .int v1_stallTime, .int v0_playTime, .int v0_stalls, .int v0_abandoned, .int v0_finished, .int v0_switches, .long v0_wasted, .long v0_quality])), (h1, .inr (0, [.int v1_startUpTime, .int v1_stallTime, .int v1_playTime, .int v1_stalls, .int v1_abandoned, .int v1_finished, .int v1_switches, .long v1_wasted, .long v1_quality]))] := hD
  refine lv_aload_n hx hb dX0_copyFrom_16 rfl (lv_at hl 0 rfl) ?_
  refine lv_aload_n hx hb dX0_copyFrom_17 rfl (lv_at hl 1 rfl) ?_
  refine gf_X0_18 (v := .int v1_playTime) S hK hP 1 rfl rfl dX0_copyFrom_18 ?_
  refine pf_X0_18 (v := .int v1_playTime) S hK hP hD hS 0 rfl (Nat.le_of_ble_eq_true rfl) rfl dX0_copyFrom_21 (fun H locs hP hD hS => ?_)
  have hP : va_P D vwCl [(h0, .inr (0, [.int v1_startUpTime, .int v1_stallTime, .int v1_playTime, .int v0_stalls, .int v0_abandoned, .int v0_finished, .int v0_switches, .long v0_wasted, .long v0_quality])), (h1, .inr (0, [.int v1_startUpTime, .int v1_stallTime, .int v1_playTime, .int v1_stalls, .int v1_abandoned, .int v1_finished, .int v1_switches, .long v1_wasted, .long v1_quality]))] H := hP
  have hD : va_D A [(h0, .inr (0, [.int v1_startUpTime, .int v1_stallTime, .int v1_playTime, .int v0_stalls, .int v0_abandoned, .int v0_finished, .int v0_switches, .long v0_wasted, .long v0_quality])), (h1, .inr (0, [.int v1_startUpTime, .int v1_stallTime, .int v1_playTime, .int v1_stalls, .int v1_abandoned, .int v1_finished, .int v1_switches, .long v1_wasted, .long v1_quality]))] := hD
  refine lv_aload_n hx hb dX0_copyFrom_24 rfl (lv_at hl 0 rfl) ?_
  refine lv_aload_n hx hb dX0_copyFrom_25 rfl (lv_at hl 1 rfl) ?_
  refine gf_X0_21 (v := .int v1_stalls) S hK hP 1 rfl rfl dX0_copyFrom_26 ?_
  refine pf_X0_21 (v := .int v1_stalls) S hK hP hD hS 0 rfl (Nat.le_of_ble_eq_true rfl) rfl dX0_copyFrom_29 (fun H locs hP hD hS => ?_)
  have hP : va_P D vwCl [(h0, .inr (0, [.int v1_startUpTime, .int v1_stallTime, .int v1_playTime, .int v1_stalls, .int v0_abandoned, .int v0_finished, .int v0_switches, .long v0_wasted, .long v0_quality])), (h1, .inr (0, [.int v1_startUpTime, .int v1_stallTime, .int v1_playTime, .int v1_stalls, .int v1_abandoned, .int v1_finished, .int v1_switches, .long v1_wasted, .long v1_quality]))] H := hP
  have hD : va_D A [(h0, .inr (0, [.int v1_startUpTime, .int v1_stallTime, .int v1_playTime, .int v1_stalls, .int v0_abandoned, .int v0_finished, .int v0_switches, .long v0_wasted, .long v0_quality])), (h1, .inr (0, [.int v1_startUpTime, .int v1_stallTime, .int v1_playTime, .int v1_stalls, .int v1_abandoned, .int v1_finished, .int v1_switches, .long v1_wasted, .long v1_quality]))] := hD
  refine lv_aload_n hx hb dX0_copyFrom_32 rfl (lv_at hl 0 rfl) ?_
  refine lv_aload_n hx hb dX0_copyFrom_33 rfl (lv_at hl 1 rfl) ?_
  refine gf_X0_24 (v := .int v1_abandoned) S hK hP 1 rfl rfl dX0_copyFrom_34 ?_
  refine pf_X0_24 (v := .int v1_abandoned) S hK hP hD hS 0 rfl (Nat.le_of_ble_eq_true rfl) rfl dX0_copyFrom_37 (fun H locs hP hD hS => ?_)
  have hP : va_P D vwCl [(h0, .inr (0, [.int v1_startUpTime, .int v1_stallTime, .int v1_playTime, .int v1_stalls, .int v1_abandoned, .int v0_finished, .int v0_switches, .long v0_wasted, .long v0_quality])), (h1, .inr (0, [.int v1_startUpTime, .int v1_stallTime, .int v1_playTime, .int v1_stalls, .int v1_abandoned, .int v1_finished, .int v1_switches, .long v1_wasted, .long v1_quality]))] H := hP
  have hD : va_D A [(h0, .inr (0, [.int v1_startUpTime, .int v1_stallTime, .int v1_playTime, .int v1_stalls, .int v1_abandoned, .int v0_finished, .int v0_switches, .long v0_wasted, .long v0_quality])), (h1, .inr (0, [.int v1_startUpTime, .int v1_stallTime, .int v1_playTime, .int v1_stalls, .int v1_abandoned, .int v1_finished, .int v1_switches, .long v1_wasted, .long v1_quality]))] := hD
  refine lv_aload_n hx hb dX0_copyFrom_40 rfl (lv_at hl 0 rfl) ?_
  refine lv_aload_n hx hb dX0_copyFrom_41 rfl (lv_at hl 1 rfl) ?_
  refine gf_X0_27 (v := .int v1_finished) S hK hP 1 rfl rfl dX0_copyFrom_42 ?_
  refine pf_X0_27 (v := .int v1_finished) S hK hP hD hS 0 rfl (Nat.le_of_ble_eq_true rfl) rfl dX0_copyFrom_45 (fun H locs hP hD hS => ?_)
  have hP : va_P D vwCl [(h0, .inr (0, [.int v1_startUpTime, .int v1_stallTime, .int v1_playTime, .int v1_stalls, .int v1_abandoned, .int v1_finished, .int v0_switches, .long v0_wasted, .long v0_quality])), (h1, .inr (0, [.int v1_startUpTime, .int v1_stallTime, .int v1_playTime, .int v1_stalls, .int v1_abandoned, .int v1_finished, .int v1_switches, .long v1_wasted, .long v1_quality]))] H := hP
  have hD : va_D A [(h0, .inr (0, [.int v1_startUpTime, .int v1_stallTime, .int v1_playTime, .int v1_stalls, .int v1_abandoned, .int v1_finished, .int v0_switches, .long v0_wasted, .long v0_quality])), (h1, .inr (0, [.int v1_startUpTime, .int v1_stallTime, .int v1_playTime, .int v1_stalls, .int v1_abandoned, .int v1_finished, .int v1_switches, .long v1_wasted, .long v1_quality]))] := hD
  refine lv_aload_n hx hb dX0_copyFrom_48 rfl (lv_at hl 0 rfl) ?_
  refine lv_aload_n hx hb dX0_copyFrom_49 rfl (lv_at hl 1 rfl) ?_
  refine gf_X0_30 (v := .int v1_switches) S hK hP 1 rfl rfl dX0_copyFrom_50 ?_
  refine pf_X0_30 (v := .int v1_switches) S hK hP hD hS 0 rfl (Nat.le_of_ble_eq_true rfl) rfl dX0_copyFrom_53 (fun H locs hP hD hS => ?_)
  have hP : va_P D vwCl [(h0, .inr (0, [.int v1_startUpTime, .int v1_stallTime, .int v1_playTime, .int v1_stalls, .int v1_abandoned, .int v1_finished, .int v1_switches, .long v0_wasted, .long v0_quality])), (h1, .inr (0, [.int v1_startUpTime, .int v1_stallTime, .int v1_playTime, .int v1_stalls, .int v1_abandoned, .int v1_finished, .int v1_switches, .long v1_wasted, .long v1_quality]))] H := hP
  have hD : va_D A [(h0, .inr (0, [.int v1_startUpTime, .int v1_stallTime, .int v1_playTime, .int v1_stalls, .int v1_abandoned, .int v1_finished, .int v1_switches, .long v0_wasted, .long v0_quality])), (h1, .inr (0, [.int v1_startUpTime, .int v1_stallTime, .int v1_playTime, .int v1_stalls, .int v1_abandoned, .int v1_finished, .int v1_switches, .long v1_wasted, .long v1_quality]))] := hD
  refine lv_aload_n hx hb dX0_copyFrom_56 rfl (lv_at hl 0 rfl) ?_
  refine lv_aload_n hx hb dX0_copyFrom_57 rfl (lv_at hl 1 rfl) ?_
  refine gf_X0_33 (v := .long v1_wasted) S hK hP 1 rfl rfl dX0_copyFrom_58 ?_
  refine pf_X0_33 (v := .long v1_wasted) S hK hP hD hS 0 rfl (Nat.le_of_ble_eq_true rfl) rfl dX0_copyFrom_61 (fun H locs hP hD hS => ?_)
  have hP : va_P D vwCl [(h0, .inr (0, [.int v1_startUpTime, .int v1_stallTime, .int v1_playTime, .int v1_stalls, .int v1_abandoned, .int v1_finished, .int v1_switches, .long v1_wasted, .long v0_quality])), (h1, .inr (0, [.int v1_startUpTime, .int v1_stallTime, .int v1_playTime, .int v1_stalls, .int v1_abandoned, .int v1_finished, .int v1_switches, .long v1_wasted, .long v1_quality]))] H := hP
  have hD : va_D A [(h0, .inr (0, [.int v1_startUpTime, .int v1_stallTime, .int v1_playTime, .int v1_stalls, .int v1_abandoned, .int v1_finished, .int v1_switches, .long v1_wasted, .long v0_quality])), (h1, .inr (0, [.int v1_startUpTime, .int v1_stallTime, .int v1_playTime, .int v1_stalls, .int v1_abandoned, .int v1_finished, .int v1_switches, .long v1_wasted, .long v1_quality]))] := hD
  refine lv_aload_n hx hb dX0_copyFrom_64 rfl (lv_at hl 0 rfl) ?_
  refine lv_aload_n hx hb dX0_copyFrom_65 rfl (lv_at hl 1 rfl) ?_
  refine gf_X0_37 (v := .long v1_quality) S hK hP 1 rfl rfl dX0_copyFrom_66 ?_
  refine pf_X0_37 (v := .long v1_quality) S hK hP hD hS 0 rfl (Nat.le_of_ble_eq_true rfl) rfl dX0_copyFrom_69 (fun H locs hP hD hS => ?_)
  have hP : va_P D vwCl [(h0, .inr (0, [.int v1_startUpTime, .int v1_stallTime, .int v1_playTime, .int v1_stalls, .int v1_abandoned, .int v1_finished, .int v1_switches, .long v1_wasted, .long v1_quality])), (h1, .inr (0, [.int v1_startUpTime, .int v1_stallTime, .int v1_playTime, .int v1_stalls, .int v1_abandoned, .int v1_finished, .int v1_switches, .long v1_wasted, .long v1_quality]))] H := hP
  have hD : va_D A [(h0, .inr (0, [.int v1_startUpTime, .int v1_stallTime, .int v1_playTime, .int v1_stalls, .int v1_abandoned, .int v1_finished, .int v1_switches, .long v1_wasted, .long v1_quality])), (h1, .inr (0, [.int v1_startUpTime, .int v1_stallTime, .int v1_playTime, .int v1_stalls, .int v1_abandoned, .int v1_finished, .int v1_switches, .long v1_wasted, .long v1_quality]))] := hD
  subst h
  exact wRv S hr hlk (hP.sub [0, 1] rfl) (hD.sub [0, 1] (by decide) rfl) hS dX0_copyFrom_72
abbrev rm_X0_spendIn : Room := { frames := 0, cells := 0, slots := 0, locals := 0 }
theorem dX0_spendIn_0 : decode cX0_spendIn 0 = .ok (.iload_n 1, 1) := by decide +kernel
theorem dX0_spendIn_1 : decode cX0_spendIn 1 = .ok (.iconst 1, 1) := by decide +kernel
theorem dX0_spendIn_2 : decode cX0_spendIn 2 = .ok (.if_icmp .ne 16, 3) := by decide +kernel
theorem dX0_spendIn_5 : decode cX0_spendIn 5 = .ok (.aload_n 0, 1) := by decide +kernel
theorem dX0_spendIn_6 : decode cX0_spendIn 6 = .ok (.dup, 1) := by decide +kernel
theorem dX0_spendIn_7 : decode cX0_spendIn 7 = .ok (.getfield 9, 3) := by decide +kernel
theorem dX0_spendIn_10 : decode cX0_spendIn 10 = .ok (.iconst 1, 1) := by decide +kernel
theorem dX0_spendIn_11 : decode cX0_spendIn 11 = .ok (.iadd, 1) := by decide +kernel
theorem dX0_spendIn_12 : decode cX0_spendIn 12 = .ok (.putfield 9, 3) := by decide +kernel
theorem dX0_spendIn_15 : decode cX0_spendIn 15 = .ok (.goto 36, 3) := by decide +kernel
theorem dX0_spendIn_18 : decode cX0_spendIn 18 = .ok (.iload_n 1, 1) := by decide +kernel
theorem dX0_spendIn_19 : decode cX0_spendIn 19 = .ok (.iconst 3, 1) := by decide +kernel
theorem dX0_spendIn_20 : decode cX0_spendIn 20 = .ok (.if_icmp .ne 16, 3) := by decide +kernel
theorem dX0_spendIn_23 : decode cX0_spendIn 23 = .ok (.aload_n 0, 1) := by decide +kernel
theorem dX0_spendIn_24 : decode cX0_spendIn 24 = .ok (.dup, 1) := by decide +kernel
theorem dX0_spendIn_25 : decode cX0_spendIn 25 = .ok (.getfield 15, 3) := by decide +kernel
theorem dX0_spendIn_28 : decode cX0_spendIn 28 = .ok (.iconst 1, 1) := by decide +kernel
theorem dX0_spendIn_29 : decode cX0_spendIn 29 = .ok (.iadd, 1) := by decide +kernel
theorem dX0_spendIn_30 : decode cX0_spendIn 30 = .ok (.putfield 15, 3) := by decide +kernel
theorem dX0_spendIn_33 : decode cX0_spendIn 33 = .ok (.goto 18, 3) := by decide +kernel
theorem dX0_spendIn_36 : decode cX0_spendIn 36 = .ok (.iload_n 1, 1) := by decide +kernel
theorem dX0_spendIn_37 : decode cX0_spendIn 37 = .ok (.iconst 2, 1) := by decide +kernel
theorem dX0_spendIn_38 : decode cX0_spendIn 38 = .ok (.if_icmp .ne 13, 3) := by decide +kernel
theorem dX0_spendIn_41 : decode cX0_spendIn 41 = .ok (.aload_n 0, 1) := by decide +kernel
theorem dX0_spendIn_42 : decode cX0_spendIn 42 = .ok (.dup, 1) := by decide +kernel
theorem dX0_spendIn_43 : decode cX0_spendIn 43 = .ok (.getfield 18, 3) := by decide +kernel
theorem dX0_spendIn_46 : decode cX0_spendIn 46 = .ok (.iconst 1, 1) := by decide +kernel
theorem dX0_spendIn_47 : decode cX0_spendIn 47 = .ok (.iadd, 1) := by decide +kernel
theorem dX0_spendIn_48 : decode cX0_spendIn 48 = .ok (.putfield 18, 3) := by decide +kernel
theorem dX0_spendIn_51 : decode cX0_spendIn 51 = .ok (.return_, 1) := by decide +kernel
def f_X0_spendIn (v0_startUpTime v0_stallTime v0_playTime p0 : Int32) : Int32 × Int32 × Int32 :=
  if p0 = 1 then
    (v0_startUpTime + 1, v0_stallTime, v0_playTime)
  else
    if p0 = 3 then
      (v0_startUpTime, v0_stallTime + 1, v0_playTime)
    else
      if p0 = 2 then
        (v0_startUpTime, v0_stallTime, v0_playTime + 1)
      else
        (v0_startUpTime, v0_stallTime, v0_playTime)
set_option maxHeartbeats 4000000 in
set_option maxRecDepth 100000 in
theorem c_X0_spendIn (l : Launch) (D : va_G) (cI cJ cC : ClassId) (h0 : Nat) (v0_startUpTime v0_stallTime v0_playTime v0_stalls v0_abandoned v0_finished v0_switches : Int32) (v0_wasted v0_quality : Int64) (sz : Nat) (p0 : Int32) (T : Int32 × Int32 × Int32) (h : f_X0_spendIn v0_startUpTime v0_stallTime v0_playTime p0 = T) : Met l yX0_spendIn (Cond.code yX0_spendIn cX0_spendIn 2 none :: TB) rm_X0_spendIn (PreW D cI cJ cC [(h0, .inr (0, [.int v0_startUpTime, .int v0_stallTime, .int v0_playTime, .int v0_stalls, .int v0_abandoned, .int v0_finished, .int v0_switches, .long v0_wasted, .long v0_quality]))] sz [.ref h0, .int p0]) (QW none D [(h0, .inr (0, [.int T.1, .int T.2.1, .int T.2.2, .int v0_stalls, .int v0_abandoned, .int v0_finished, .int v0_switches, .long v0_wasted, .long v0_quality]))] (va_A [(h0, .inr (0, [.int v0_startUpTime, .int v0_stallTime, .int v0_playTime, .int v0_stalls, .int v0_abandoned, .int v0_finished, .int v0_switches, .long v0_wasted, .long v0_quality]))] sz)) 0 0 (va_A [(h0, .inr (0, [.int v0_startUpTime, .int v0_stallTime, .int v0_playTime, .int v0_stalls, .int v0_abandoned, .int v0_finished, .int v0_switches, .long v0_wasted, .long v0_quality]))] sz) := by
  refine metW (own := RX0) (by decide) rfl (Nat.le_of_ble_eq_true rfl) ?_
  intro p e s m below meth c S hr hlk hP hK A hAe hD hA hS ls hl
  clear hAe
  have hx := S.1
  have hb := S.2.1
  have hl : lv_has ls 2 [(0, .ref h0), (1, .int p0)] := hl
  refine lv_iload_n hx hb dX0_spendIn_0 rfl (lv_at hl 1 rfl) ?_
  refine lv_iconst (v := 1) hx hb dX0_spendIn_1 li_1 ?_
  refine lv_icmp_ne (tgt := 18) hx hb dX0_spendIn_2 (by decide) (fun c1 => ?_) (fun c1 => ?_)
  · have h := iteN c1 h
    refine lv_iload_n hx hb dX0_spendIn_18 rfl (lv_at hl 1 rfl) ?_
    refine lv_iconst (v := 3) hx hb dX0_spendIn_19 li_3 ?_
    refine lv_icmp_ne (tgt := 36) hx hb dX0_spendIn_20 (by decide) (fun c2 => ?_) (fun c2 => ?_)
    · have h := iteN c2 h
      refine lv_iload_n hx hb dX0_spendIn_36 rfl (lv_at hl 1 rfl) ?_
      refine lv_iconst (v := 2) hx hb dX0_spendIn_37 li_2 ?_
      refine lv_icmp_ne (tgt := 51) hx hb dX0_spendIn_38 (by decide) (fun c3 => ?_) (fun c3 => ?_)
      · have h := iteN c3 h
        subst h
        exact wRv S hr hlk (hP.sub [0] rfl) (hD.sub [0] (by decide) rfl) hS dX0_spendIn_51
      · have h := iteP c3 h
        refine lv_aload_n hx hb dX0_spendIn_41 rfl (lv_at hl 0 rfl) ?_
        refine lv_dup hx hb dX0_spendIn_42 rfl ?_
        refine gf_X0_18 (v := .int v0_playTime) S hK hP 0 rfl rfl dX0_spendIn_43 ?_
        refine lv_iconst (v := 1) hx hb dX0_spendIn_46 li_1 ?_
        refine lv_iadd hx hb dX0_spendIn_47 ?_
        refine pf_X0_18 (v := .int (v0_playTime + 1)) S hK hP hD hS 0 rfl (Nat.le_of_ble_eq_true rfl) rfl dX0_spendIn_48 (fun H locs hP hD hS => ?_)
        have hP : va_P D vwCl [(h0, .inr (0, [.int v0_startUpTime, .int v0_stallTime, .int (v0_playTime + 1), .int v0_stalls, .int v0_abandoned, .int v0_finished, .int v0_switches, .long v0_wasted, .long v0_quality]))] H := hP
        have hD : va_D A [(h0, .inr (0, [.int v0_startUpTime, .int v0_stallTime, .int (v0_playTime + 1), .int v0_stalls, .int v0_abandoned, .int v0_finished, .int v0_switches, .long v0_wasted, .long v0_quality]))] := hD
        subst h
        exact wRv S hr hlk (hP.sub [0] rfl) (hD.sub [0] (by decide) rfl) hS dX0_spendIn_51
    · have h := iteP c2 h
      refine lv_aload_n hx hb dX0_spendIn_23 rfl (lv_at hl 0 rfl) ?_
      refine lv_dup hx hb dX0_spendIn_24 rfl ?_
      refine gf_X0_15 (v := .int v0_stallTime) S hK hP 0 rfl rfl dX0_spendIn_25 ?_
      refine lv_iconst (v := 1) hx hb dX0_spendIn_28 li_1 ?_
      refine lv_iadd hx hb dX0_spendIn_29 ?_
      refine pf_X0_15 (v := .int (v0_stallTime + 1)) S hK hP hD hS 0 rfl (Nat.le_of_ble_eq_true rfl) rfl dX0_spendIn_30 (fun H locs hP hD hS => ?_)
      have hP : va_P D vwCl [(h0, .inr (0, [.int v0_startUpTime, .int (v0_stallTime + 1), .int v0_playTime, .int v0_stalls, .int v0_abandoned, .int v0_finished, .int v0_switches, .long v0_wasted, .long v0_quality]))] H := hP
      have hD : va_D A [(h0, .inr (0, [.int v0_startUpTime, .int (v0_stallTime + 1), .int v0_playTime, .int v0_stalls, .int v0_abandoned, .int v0_finished, .int v0_switches, .long v0_wasted, .long v0_quality]))] := hD
      refine lv_goto (tgt := 51) hx hb dX0_spendIn_33 (by decide) ?_
      subst h
      exact wRv S hr hlk (hP.sub [0] rfl) (hD.sub [0] (by decide) rfl) hS dX0_spendIn_51
  · have h := iteP c1 h
    refine lv_aload_n hx hb dX0_spendIn_5 rfl (lv_at hl 0 rfl) ?_
    refine lv_dup hx hb dX0_spendIn_6 rfl ?_
    refine gf_X0_9 (v := .int v0_startUpTime) S hK hP 0 rfl rfl dX0_spendIn_7 ?_
    refine lv_iconst (v := 1) hx hb dX0_spendIn_10 li_1 ?_
    refine lv_iadd hx hb dX0_spendIn_11 ?_
    refine pf_X0_9 (v := .int (v0_startUpTime + 1)) S hK hP hD hS 0 rfl (Nat.le_of_ble_eq_true rfl) rfl dX0_spendIn_12 (fun H locs hP hD hS => ?_)
    have hP : va_P D vwCl [(h0, .inr (0, [.int (v0_startUpTime + 1), .int v0_stallTime, .int v0_playTime, .int v0_stalls, .int v0_abandoned, .int v0_finished, .int v0_switches, .long v0_wasted, .long v0_quality]))] H := hP
    have hD : va_D A [(h0, .inr (0, [.int (v0_startUpTime + 1), .int v0_stallTime, .int v0_playTime, .int v0_stalls, .int v0_abandoned, .int v0_finished, .int v0_switches, .long v0_wasted, .long v0_quality]))] := hD
    refine lv_goto (tgt := 51) hx hb dX0_spendIn_15 (by decide) ?_
    subst h
    exact wRv S hr hlk (hP.sub [0] rfl) (hD.sub [0] (by decide) rfl) hS dX0_spendIn_51
abbrev rm_X0_timeSpent : Room := { frames := 0, cells := 0, slots := 0, locals := 0 }
theorem dX0_timeSpent_0 : decode cX0_timeSpent 0 = .ok (.iload_n 1, 1) := by decide +kernel
theorem dX0_timeSpent_1 : decode cX0_timeSpent 1 = .ok (.lookupswitch 37 #[(0, 27), (1, 32)], 27) := by decide +kernel
theorem dX0_timeSpent_28 : decode cX0_timeSpent 28 = .ok (.aload_n 0, 1) := by decide +kernel
theorem dX0_timeSpent_29 : decode cX0_timeSpent 29 = .ok (.getfield 9, 3) := by decide +kernel
theorem dX0_timeSpent_32 : decode cX0_timeSpent 32 = .ok (.ireturn, 1) := by decide +kernel
theorem dX0_timeSpent_33 : decode cX0_timeSpent 33 = .ok (.aload_n 0, 1) := by decide +kernel
theorem dX0_timeSpent_34 : decode cX0_timeSpent 34 = .ok (.getfield 15, 3) := by decide +kernel
theorem dX0_timeSpent_37 : decode cX0_timeSpent 37 = .ok (.ireturn, 1) := by decide +kernel
theorem dX0_timeSpent_38 : decode cX0_timeSpent 38 = .ok (.aload_n 0, 1) := by decide +kernel
theorem dX0_timeSpent_39 : decode cX0_timeSpent 39 = .ok (.getfield 18, 3) := by decide +kernel
theorem dX0_timeSpent_42 : decode cX0_timeSpent 42 = .ok (.ireturn, 1) := by decide +kernel
def f_X0_timeSpent (v0_startUpTime v0_stallTime v0_playTime p0 : Int32) : Int32 :=
  if p0 = 0 then
    v0_startUpTime
  else
    if p0 = 1 then
      v0_stallTime
    else
      v0_playTime
set_option maxHeartbeats 4000000 in
set_option maxRecDepth 100000 in
theorem c_X0_timeSpent (l : Launch) (D : va_G) (cI cJ cC : ClassId) (h0 : Nat) (v0_startUpTime v0_stallTime v0_playTime v0_stalls v0_abandoned v0_finished v0_switches : Int32) (v0_wasted v0_quality : Int64) (p0 : Int32) (t0 : Int32) (h : f_X0_timeSpent v0_startUpTime v0_stallTime v0_playTime p0 = t0) : Met l yX0_timeSpent (Cond.code yX0_timeSpent cX0_timeSpent 2 (some .int) :: TB) rm_X0_timeSpent (PreR D cI cJ cC [(h0, .inr (0, [.int v0_startUpTime, .int v0_stallTime, .int v0_playTime, .int v0_stalls, .int v0_abandoned, .int v0_finished, .int v0_switches, .long v0_wasted, .long v0_quality]))] [.ref h0, .int p0]) (QR (some (.int t0))) 0 0 free0 := by
  refine metR (own := RX0) (by decide) rfl (Nat.le_of_ble_eq_true rfl) ?_
  intro p e s m below meth c S hr hlk hP hK ls hl
  have hx := S.1
  have hb := S.2.1
  have hl : lv_has ls 2 [(0, .ref h0), (1, .int p0)] := hl
  refine lv_iload_n hx hb dX0_timeSpent_0 rfl (lv_at hl 1 rfl) ?_
  by_cases c1 : p0 = 0
  · have h := iteP c1 h
    refine lv_lookup (off := 27) (tgt := 28) hx hb dX0_timeSpent_1 (by decide) (by rw [c1]; rfl) (by decide) ?_
    refine lv_aload_n hx hb dX0_timeSpent_28 rfl (lv_at hl 0 rfl) ?_
    refine gf_X0_9 (v := .int v0_startUpTime) S hK hP 0 rfl rfl dX0_timeSpent_29 ?_
    subst h
    exact rRi S hr hlk dX0_timeSpent_32
  · have h := iteN c1 h
    by_cases c2 : p0 = 1
    · have h := iteP c2 h
      refine lv_lookup (off := 32) (tgt := 33) hx hb dX0_timeSpent_1 (by decide) (by rw [c2]; rfl) (by decide) ?_
      refine lv_aload_n hx hb dX0_timeSpent_33 rfl (lv_at hl 0 rfl) ?_
      refine gf_X0_15 (v := .int v0_stallTime) S hK hP 0 rfl rfl dX0_timeSpent_34 ?_
      subst h
      exact rRi S hr hlk dX0_timeSpent_37
    · have h := iteN c2 h
      refine lv_lookup (off := 37) (tgt := 38) hx hb dX0_timeSpent_1 (by decide) ((lv_osw c1 (by decide)).trans ((lv_osw c2 (by decide)).trans rfl)) (by decide) ?_
      refine lv_aload_n hx hb dX0_timeSpent_38 rfl (lv_at hl 0 rfl) ?_
      refine gf_X0_18 (v := .int v0_playTime) S hK hP 0 rfl rfl dX0_timeSpent_39 ?_
      subst h
      exact rRi S hr hlk dX0_timeSpent_42
abbrev rm_X0_eventsOf : Room := { frames := 0, cells := 0, slots := 0, locals := 0 }
theorem dX0_eventsOf_0 : decode cX0_eventsOf 0 = .ok (.iload_n 1, 1) := by decide +kernel
theorem dX0_eventsOf_1 : decode cX0_eventsOf 1 = .ok (.tableswitch 42 0 2 #[27, 32, 37], 27) := by decide +kernel
theorem dX0_eventsOf_28 : decode cX0_eventsOf 28 = .ok (.aload_n 0, 1) := by decide +kernel
theorem dX0_eventsOf_29 : decode cX0_eventsOf 29 = .ok (.getfield 21, 3) := by decide +kernel
theorem dX0_eventsOf_32 : decode cX0_eventsOf 32 = .ok (.ireturn, 1) := by decide +kernel
theorem dX0_eventsOf_33 : decode cX0_eventsOf 33 = .ok (.aload_n 0, 1) := by decide +kernel
theorem dX0_eventsOf_34 : decode cX0_eventsOf 34 = .ok (.getfield 24, 3) := by decide +kernel
theorem dX0_eventsOf_37 : decode cX0_eventsOf 37 = .ok (.ireturn, 1) := by decide +kernel
theorem dX0_eventsOf_38 : decode cX0_eventsOf 38 = .ok (.aload_n 0, 1) := by decide +kernel
theorem dX0_eventsOf_39 : decode cX0_eventsOf 39 = .ok (.getfield 27, 3) := by decide +kernel
theorem dX0_eventsOf_42 : decode cX0_eventsOf 42 = .ok (.ireturn, 1) := by decide +kernel
theorem dX0_eventsOf_43 : decode cX0_eventsOf 43 = .ok (.aload_n 0, 1) := by decide +kernel
theorem dX0_eventsOf_44 : decode cX0_eventsOf 44 = .ok (.getfield 30, 3) := by decide +kernel
theorem dX0_eventsOf_47 : decode cX0_eventsOf 47 = .ok (.ireturn, 1) := by decide +kernel
def f_X0_eventsOf (v0_stalls v0_abandoned v0_finished v0_switches p0 : Int32) : Int32 :=
  if p0 = 0 then
    v0_stalls
  else
    if p0 = 1 then
      v0_abandoned
    else
      if p0 = 2 then
        v0_finished
      else
        v0_switches
set_option maxHeartbeats 4000000 in
set_option maxRecDepth 100000 in
theorem c_X0_eventsOf (l : Launch) (D : va_G) (cI cJ cC : ClassId) (h0 : Nat) (v0_startUpTime v0_stallTime v0_playTime v0_stalls v0_abandoned v0_finished v0_switches : Int32) (v0_wasted v0_quality : Int64) (p0 : Int32) (t0 : Int32) (h : f_X0_eventsOf v0_stalls v0_abandoned v0_finished v0_switches p0 = t0) : Met l yX0_eventsOf (Cond.code yX0_eventsOf cX0_eventsOf 2 (some .int) :: TB) rm_X0_eventsOf (PreR D cI cJ cC [(h0, .inr (0, [.int v0_startUpTime, .int v0_stallTime, .int v0_playTime, .int v0_stalls, .int v0_abandoned, .int v0_finished, .int v0_switches, .long v0_wasted, .long v0_quality]))] [.ref h0, .int p0]) (QR (some (.int t0))) 0 0 free0 := by
  refine metR (own := RX0) (by decide) rfl (Nat.le_of_ble_eq_true rfl) ?_
  intro p e s m below meth c S hr hlk hP hK ls hl
  have hx := S.1
  have hb := S.2.1
  have hl : lv_has ls 2 [(0, .ref h0), (1, .int p0)] := hl
  refine lv_iload_n hx hb dX0_eventsOf_0 rfl (lv_at hl 1 rfl) ?_
  by_cases c1 : p0 = 0
  · have h := iteP c1 h
    refine lv_tableIn (off := 27) (tgt := 28) hx hb dX0_eventsOf_1 (by rw [c1]; decide) (by rw [c1]; decide) (by rw [c1]; rfl) (by decide) ?_
    refine lv_aload_n hx hb dX0_eventsOf_28 rfl (lv_at hl 0 rfl) ?_
    refine gf_X0_21 (v := .int v0_stalls) S hK hP 0 rfl rfl dX0_eventsOf_29 ?_
    subst h
    exact rRi S hr hlk dX0_eventsOf_32
  · have h := iteN c1 h
    by_cases c2 : p0 = 1
    · have h := iteP c2 h
      refine lv_tableIn (off := 32) (tgt := 33) hx hb dX0_eventsOf_1 (by rw [c2]; decide) (by rw [c2]; decide) (by rw [c2]; rfl) (by decide) ?_
      refine lv_aload_n hx hb dX0_eventsOf_33 rfl (lv_at hl 0 rfl) ?_
      refine gf_X0_24 (v := .int v0_abandoned) S hK hP 0 rfl rfl dX0_eventsOf_34 ?_
      subst h
      exact rRi S hr hlk dX0_eventsOf_37
    · have h := iteN c2 h
      by_cases c3 : p0 = 2
      · have h := iteP c3 h
        refine lv_tableIn (off := 37) (tgt := 38) hx hb dX0_eventsOf_1 (by rw [c3]; decide) (by rw [c3]; decide) (by rw [c3]; rfl) (by decide) ?_
        refine lv_aload_n hx hb dX0_eventsOf_38 rfl (lv_at hl 0 rfl) ?_
        refine gf_X0_27 (v := .int v0_finished) S hK hP 0 rfl rfl dX0_eventsOf_39 ?_
        subst h
        exact rRi S hr hlk dX0_eventsOf_42
      · have h := iteN c3 h
        have q4_0 := lv_neT c1 (a := 0) (by decide)
        have q4_1 := lv_neT c2 (a := 1) (by decide)
        have q4_2 := lv_neT c3 (a := 2) (by decide)
        refine lv_tableOut (tgt := 43) hx hb dX0_eventsOf_1 (by omega) (by decide) ?_
        refine lv_aload_n hx hb dX0_eventsOf_43 rfl (lv_at hl 0 rfl) ?_
        refine gf_X0_30 (v := .int v0_switches) S hK hP 0 rfl rfl dX0_eventsOf_44 ?_
        subst h
        exact rRi S hr hlk dX0_eventsOf_47
