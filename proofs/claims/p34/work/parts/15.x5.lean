abbrev rm_X5_empty : Room := { frames := 0, cells := 0, slots := 0, locals := 0 }
theorem dX5_empty_0 : decode cX5_empty 0 = .ok (.aload_n 0, 1) := by decide +kernel
theorem dX5_empty_1 : decode cX5_empty 1 = .ok (.iconst 0, 1) := by decide +kernel
theorem dX5_empty_2 : decode cX5_empty 2 = .ok (.putfield 18, 3) := by decide +kernel
theorem dX5_empty_5 : decode cX5_empty 5 = .ok (.return_, 1) := by decide +kernel
theorem pf_X5_18 {p : Program} {l : Launch} {e : Env} {R : Room} {s : State} {m : MethodId} {args : Array Value} {below : List Frame} {meth : Method} {c : Code} {H H0 : Heap} {locs : List Loc} {cells slots : Nat} {Q : State → Prop} {cc : ByteArray} {pc nL : Nat} {ls : Array Slot} {rest : List Value} {D : va_G} {ws : va_W} {tys : List (ClassId × FieldType)} {A : Nat → Prop} {x9 : Int32} {v : Value} (S : CallFix p m c cc nL s args TB RX5) (hK : va_K D vwCl tys s) (hP : va_P D vwCl ws H) (hD : va_D A ws) (hS : va_S A H0 H locs) (q0 : Nat) {a : Nat} {fs : List Value} (he : ws[q0]? = some (a, .inr (5, fs))) (hle : 2 < fs.length) (hv9 : v = .int x9) (hdg : decode cc pc = .ok (.putfield 18, 3))
    (kk : ∀ (H1 : Heap) (locs1 : List Loc), va_P D vwCl (ws.set q0 (a, .inr (5, fs.set 2 v))) H1 → va_D A (ws.set q0 (a, .inr (5, fs.set 2 v))) → va_S A H0 H1 locs1 → W p l e R s m args below meth c H1 locs1 cells slots Q (F0 m (pc + 3) ls rest)) : W p l e R s m args below meth c H locs cells slots Q (F0 m pc ls (v :: .ref a :: rest)) := by
  subst hv9
  exact va_put (D := D) (ci := 5) (ty := .int) (C := RX5) (T := TX5) (N := 3) S.1 S.2.1 S.2.2.2.2 iwX5 tyX5 tyX5_ok nmX5 S.2.2.2.1 hK hP hD hS q0 he rfl 2 (by decide) (S.2.2.2.2 _ tb142) (fun _ h9 => h9) rfl (by decide +kernel) rfl rfl hle hdg kk
def f_X5_empty  : Int32 :=
  0
set_option maxHeartbeats 4000000 in
set_option maxRecDepth 100000 in
theorem c_X5_empty (l : Launch) (D : va_G) (cI cJ cC : ClassId) (h0 kthis_bits kthis_durations : Nat) (v0_kept : Int32) (sz : Nat)  (t0 : Int32) (h : f_X5_empty = t0) : Met l yX5_empty (Cond.code yX5_empty cX5_empty 1 none :: TB) rm_X5_empty (PreW D cI cJ cC [(h0, .inr (5, [.ref kthis_bits, .ref kthis_durations, .int v0_kept]))] sz [.ref h0]) (QW none D [(h0, .inr (5, [.ref kthis_bits, .ref kthis_durations, .int t0]))] (va_A [(h0, .inr (5, [.ref kthis_bits, .ref kthis_durations, .int v0_kept]))] sz)) 0 0 (va_A [(h0, .inr (5, [.ref kthis_bits, .ref kthis_durations, .int v0_kept]))] sz) := by
  refine metW (own := RX5) (by decide) rfl (Nat.le_of_ble_eq_true rfl) ?_
  intro p e s m below meth c S hr hlk hP hK A hAe hD hA hS ls hl
  clear hAe
  have hx := S.1
  have hb := S.2.1
  have hl : lv_has ls 1 [(0, .ref h0)] := hl
  refine lv_aload_n hx hb dX5_empty_0 rfl (lv_at hl 0 rfl) ?_
  refine lv_iconst (v := 0) hx hb dX5_empty_1 li_0 ?_
  refine pf_X5_18 (v := .int 0) S hK hP hD hS 0 rfl (Nat.le_of_ble_eq_true rfl) rfl dX5_empty_2 (fun H locs hP hD hS => ?_)
  have hP : va_P D vwCl [(h0, .inr (5, [.ref kthis_bits, .ref kthis_durations, .int 0]))] H := hP
  have hD : va_D A [(h0, .inr (5, [.ref kthis_bits, .ref kthis_durations, .int 0]))] := hD
  subst h
  exact wRv S hr hlk (hP.sub [0] rfl) (hD.sub [0] (by decide) rfl) hS dX5_empty_5
abbrev rm_X5_copyFrom : Room := { frames := 1, cells := 0, slots := 0, locals := 30 }
theorem dX5_copyFrom_0 : decode cX5_copyFrom 0 = .ok (.aload_n 1, 1) := by decide +kernel
theorem dX5_copyFrom_1 : decode cX5_copyFrom 1 = .ok (.getfield 9, 3) := by decide +kernel
theorem dX5_copyFrom_4 : decode cX5_copyFrom 4 = .ok (.iconst 0, 1) := by decide +kernel
theorem dX5_copyFrom_5 : decode cX5_copyFrom 5 = .ok (.aload_n 0, 1) := by decide +kernel
theorem dX5_copyFrom_6 : decode cX5_copyFrom 6 = .ok (.getfield 9, 3) := by decide +kernel
theorem dX5_copyFrom_9 : decode cX5_copyFrom 9 = .ok (.iconst 0, 1) := by decide +kernel
theorem dX5_copyFrom_10 : decode cX5_copyFrom 10 = .ok (.bipush 10, 2) := by decide +kernel
theorem dX5_copyFrom_12 : decode cX5_copyFrom 12 = .ok (.invokestatic 22, 3) := by decide +kernel
theorem dX5_copyFrom_15 : decode cX5_copyFrom 15 = .ok (.aload_n 1, 1) := by decide +kernel
theorem dX5_copyFrom_16 : decode cX5_copyFrom 16 = .ok (.getfield 15, 3) := by decide +kernel
theorem dX5_copyFrom_19 : decode cX5_copyFrom 19 = .ok (.iconst 0, 1) := by decide +kernel
theorem dX5_copyFrom_20 : decode cX5_copyFrom 20 = .ok (.aload_n 0, 1) := by decide +kernel
theorem dX5_copyFrom_21 : decode cX5_copyFrom 21 = .ok (.getfield 15, 3) := by decide +kernel
theorem dX5_copyFrom_24 : decode cX5_copyFrom 24 = .ok (.iconst 0, 1) := by decide +kernel
theorem dX5_copyFrom_25 : decode cX5_copyFrom 25 = .ok (.bipush 10, 2) := by decide +kernel
theorem dX5_copyFrom_27 : decode cX5_copyFrom 27 = .ok (.invokestatic 22, 3) := by decide +kernel
theorem dX5_copyFrom_30 : decode cX5_copyFrom 30 = .ok (.aload_n 0, 1) := by decide +kernel
theorem dX5_copyFrom_31 : decode cX5_copyFrom 31 = .ok (.aload_n 1, 1) := by decide +kernel
theorem dX5_copyFrom_32 : decode cX5_copyFrom 32 = .ok (.getfield 18, 3) := by decide +kernel
theorem dX5_copyFrom_35 : decode cX5_copyFrom 35 = .ok (.putfield 18, 3) := by decide +kernel
theorem dX5_copyFrom_38 : decode cX5_copyFrom 38 = .ok (.return_, 1) := by decide +kernel
theorem gf_X5_9 {p : Program} {l : Launch} {e : Env} {R : Room} {s : State} {m : MethodId} {args : Array Value} {below : List Frame} {meth : Method} {c : Code} {H : Heap} {locs : List Loc} {cells slots : Nat} {Q : State → Prop} {cc : ByteArray} {pc nL : Nat} {ls : Array Slot} {rest : List Value} {D : va_G} {ws : va_W} {tys : List (ClassId × FieldType)} (S : CallFix p m c cc nL s args TB RX5) (hK : va_K D vwCl tys s) (hP : va_P D vwCl ws H) (q0 : Nat) {a : Nat} {fs : List Value} (he : ws[q0]? = some (a, .inr (5, fs))) {v : Value} (hv : fs[0]? = some v) (hdg : decode cc pc = .ok (.getfield 9, 3))
    (kk : W p l e R s m args below meth c H locs cells slots Q (F0 m (pc + 3) ls (v :: rest))) : W p l e R s m args below meth c H locs cells slots Q (F0 m pc ls (.ref a :: rest)) :=
  va_get (D := D) (ci := 5) (C := RX5) (T := TX5) (N := 3) S.1 S.2.1 S.2.2.2.2 iwX5 S.2.2.2.1 hK hP q0 he rfl 0 (by decide) (S.2.2.2.2 _ tb140) (fun _ h9 => h9) hv hdg kk
theorem gf_X5_15 {p : Program} {l : Launch} {e : Env} {R : Room} {s : State} {m : MethodId} {args : Array Value} {below : List Frame} {meth : Method} {c : Code} {H : Heap} {locs : List Loc} {cells slots : Nat} {Q : State → Prop} {cc : ByteArray} {pc nL : Nat} {ls : Array Slot} {rest : List Value} {D : va_G} {ws : va_W} {tys : List (ClassId × FieldType)} (S : CallFix p m c cc nL s args TB RX5) (hK : va_K D vwCl tys s) (hP : va_P D vwCl ws H) (q0 : Nat) {a : Nat} {fs : List Value} (he : ws[q0]? = some (a, .inr (5, fs))) {v : Value} (hv : fs[1]? = some v) (hdg : decode cc pc = .ok (.getfield 15, 3))
    (kk : W p l e R s m args below meth c H locs cells slots Q (F0 m (pc + 3) ls (v :: rest))) : W p l e R s m args below meth c H locs cells slots Q (F0 m pc ls (.ref a :: rest)) :=
  va_get (D := D) (ci := 5) (C := RX5) (T := TX5) (N := 3) S.1 S.2.1 S.2.2.2.2 iwX5 S.2.2.2.1 hK hP q0 he rfl 1 (by decide) (S.2.2.2.2 _ tb141) (fun _ h9 => h9) hv hdg kk
theorem gf_X5_18 {p : Program} {l : Launch} {e : Env} {R : Room} {s : State} {m : MethodId} {args : Array Value} {below : List Frame} {meth : Method} {c : Code} {H : Heap} {locs : List Loc} {cells slots : Nat} {Q : State → Prop} {cc : ByteArray} {pc nL : Nat} {ls : Array Slot} {rest : List Value} {D : va_G} {ws : va_W} {tys : List (ClassId × FieldType)} (S : CallFix p m c cc nL s args TB RX5) (hK : va_K D vwCl tys s) (hP : va_P D vwCl ws H) (q0 : Nat) {a : Nat} {fs : List Value} (he : ws[q0]? = some (a, .inr (5, fs))) {v : Value} (hv : fs[2]? = some v) (hdg : decode cc pc = .ok (.getfield 18, 3))
    (kk : W p l e R s m args below meth c H locs cells slots Q (F0 m (pc + 3) ls (v :: rest))) : W p l e R s m args below meth c H locs cells slots Q (F0 m pc ls (.ref a :: rest)) :=
  va_get (D := D) (ci := 5) (C := RX5) (T := TX5) (N := 3) S.1 S.2.1 S.2.2.2.2 iwX5 S.2.2.2.1 hK hP q0 he rfl 2 (by decide) (S.2.2.2.2 _ tb142) (fun _ h9 => h9) hv hdg kk
def f_X5_copyFrom (r1 r2 : Nat → Int64) (v3_kept : Int32) (r4 r5 : Nat → Int64) : Int32 × (Nat → Int64) × (Nat → Int64) :=
  bnd (va_cpy r4 r1 0 0 10) fun (u1 : Nat → Int64) =>
  bnd (va_cpy r5 r2 0 0 10) fun (u2 : Nat → Int64) =>
  (v3_kept, u1, u2)
set_option maxHeartbeats 4000000 in
set_option maxRecDepth 100000 in
theorem c_X5_copyFrom (l : Launch) (D : va_G) (cI cJ cC : ClassId) (h0 h1 h2 h3 h4 h5 : Nat) (v0_kept : Int32) (r1 r2 : Nat → Int64) (v3_kept : Int32) (r4 r5 : Nat → Int64) (sz : Nat)  (T : Int32 × (Nat → Int64) × (Nat → Int64)) (h : f_X5_copyFrom r1 r2 v3_kept r4 r5 = T) : Met l yX5_copyFrom (Cond.code yX5_copyFrom cX5_copyFrom 2 none :: TB) rm_X5_copyFrom (PreW D cI cJ cC [(h0, .inr (5, [.ref h1, .ref h2, .int v0_kept])), (h1, .inl (cJ, 10, .inr (.inl r1))), (h2, .inl (cJ, 10, .inr (.inl r2))), (h3, .inr (5, [.ref h4, .ref h5, .int v3_kept])), (h4, .inl (cJ, 10, .inr (.inl r4))), (h5, .inl (cJ, 10, .inr (.inl r5)))] sz [.ref h0, .ref h3]) (QW none D [(h0, .inr (5, [.ref h1, .ref h2, .int T.1])), (h1, .inl (cJ, 10, .inr (.inl T.2.1))), (h2, .inl (cJ, 10, .inr (.inl T.2.2))), (h3, .inr (5, [.ref h4, .ref h5, .int v3_kept])), (h4, .inl (cJ, 10, .inr (.inl r4))), (h5, .inl (cJ, 10, .inr (.inl r5)))] (va_A [(h0, .inr (5, [.ref h1, .ref h2, .int v0_kept])), (h1, .inl (cJ, 10, .inr (.inl r1))), (h2, .inl (cJ, 10, .inr (.inl r2))), (h3, .inr (5, [.ref h4, .ref h5, .int v3_kept])), (h4, .inl (cJ, 10, .inr (.inl r4))), (h5, .inl (cJ, 10, .inr (.inl r5)))] sz)) 0 0 (va_A [(h0, .inr (5, [.ref h1, .ref h2, .int v0_kept])), (h1, .inl (cJ, 10, .inr (.inl r1))), (h2, .inl (cJ, 10, .inr (.inl r2))), (h3, .inr (5, [.ref h4, .ref h5, .int v3_kept])), (h4, .inl (cJ, 10, .inr (.inl r4))), (h5, .inl (cJ, 10, .inr (.inl r5)))] sz) := by
  refine metW (own := RX5) (by decide) rfl (Nat.le_of_ble_eq_true rfl) ?_
  intro p e s m below meth c S hr hlk hP hK A hAe hD hA hS ls hl
  clear hAe
  have hx := S.1
  have hb := S.2.1
  have hl : lv_has ls 2 [(0, .ref h0), (1, .ref h3)] := hl
  refine lv_aload_n hx hb dX5_copyFrom_0 rfl (lv_at hl 1 rfl) ?_
  refine gf_X5_9 (v := .ref h4) S hK hP 3 rfl rfl dX5_copyFrom_1 ?_
  refine lv_iconst (v := 0) hx hb dX5_copyFrom_4 li_0 ?_
  refine lv_aload_n hx hb dX5_copyFrom_5 rfl (lv_at hl 0 rfl) ?_
  refine gf_X5_9 (v := .ref h1) S hK hP 0 rfl rfl dX5_copyFrom_6 ?_
  refine lv_iconst (v := 0) hx hb dX5_copyFrom_9 li_0 ?_
  refine lv_bipush (v := 10) hx hb dX5_copyFrom_10 lb_10 ?_
  refine cpyJ (q0 := 4) (q1 := 1) (sp9 := 0) (dp9 := 0) (n9 := 10) S hl.1 tb592 hK hP hD hS rfl rfl (by decide) (by decide) (by decide) tn_0 tn_0 tn_10 (by decide) (by decide) (fun _ _ => rfl) (Nat.le_of_ble_eq_true rfl) (Nat.le_of_ble_eq_true rfl) dX5_copyFrom_12 (fun H locs hP hD hS => ?_)
  have hP : va_P D vwCl [(h0, .inr (5, [.ref h1, .ref h2, .int v0_kept])), (h1, .inl (cJ, 10, .inr (.inl (va_cpy r4 r1 0 0 10)))), (h2, .inl (cJ, 10, .inr (.inl r2))), (h3, .inr (5, [.ref h4, .ref h5, .int v3_kept])), (h4, .inl (cJ, 10, .inr (.inl r4))), (h5, .inl (cJ, 10, .inr (.inl r5)))] H := hP
  have hD : va_D A [(h0, .inr (5, [.ref h1, .ref h2, .int v0_kept])), (h1, .inl (cJ, 10, .inr (.inl (va_cpy r4 r1 0 0 10)))), (h2, .inl (cJ, 10, .inr (.inl r2))), (h3, .inr (5, [.ref h4, .ref h5, .int v3_kept])), (h4, .inl (cJ, 10, .inr (.inl r4))), (h5, .inl (cJ, 10, .inr (.inl r5)))] := hD
  obtain ⟨u1, e_u1⟩ : ∃ z, z = va_cpy r4 r1 0 0 10 := ⟨_, rfl⟩
  rw [← e_u1] at hP hD
  have h := bnd_eq e_u1.symm h
  refine lv_aload_n hx hb dX5_copyFrom_15 rfl (lv_at hl 1 rfl) ?_
  refine gf_X5_15 (v := .ref h5) S hK hP 3 rfl rfl dX5_copyFrom_16 ?_
  refine lv_iconst (v := 0) hx hb dX5_copyFrom_19 li_0 ?_
  refine lv_aload_n hx hb dX5_copyFrom_20 rfl (lv_at hl 0 rfl) ?_
  refine gf_X5_15 (v := .ref h2) S hK hP 0 rfl rfl dX5_copyFrom_21 ?_
  refine lv_iconst (v := 0) hx hb dX5_copyFrom_24 li_0 ?_
  refine lv_bipush (v := 10) hx hb dX5_copyFrom_25 lb_10 ?_
  refine cpyJ (q0 := 5) (q1 := 2) (sp9 := 0) (dp9 := 0) (n9 := 10) S hl.1 tb592 hK hP hD hS rfl rfl (by decide) (by decide) (by decide) tn_0 tn_0 tn_10 (by decide) (by decide) (fun _ _ => rfl) (Nat.le_of_ble_eq_true rfl) (Nat.le_of_ble_eq_true rfl) dX5_copyFrom_27 (fun H locs hP hD hS => ?_)
  have hP : va_P D vwCl [(h0, .inr (5, [.ref h1, .ref h2, .int v0_kept])), (h1, .inl (cJ, 10, .inr (.inl u1))), (h2, .inl (cJ, 10, .inr (.inl (va_cpy r5 r2 0 0 10)))), (h3, .inr (5, [.ref h4, .ref h5, .int v3_kept])), (h4, .inl (cJ, 10, .inr (.inl r4))), (h5, .inl (cJ, 10, .inr (.inl r5)))] H := hP
  have hD : va_D A [(h0, .inr (5, [.ref h1, .ref h2, .int v0_kept])), (h1, .inl (cJ, 10, .inr (.inl u1))), (h2, .inl (cJ, 10, .inr (.inl (va_cpy r5 r2 0 0 10)))), (h3, .inr (5, [.ref h4, .ref h5, .int v3_kept])), (h4, .inl (cJ, 10, .inr (.inl r4))), (h5, .inl (cJ, 10, .inr (.inl r5)))] := hD
  obtain ⟨u2, e_u2⟩ : ∃ z, z = va_cpy r5 r2 0 0 10 := ⟨_, rfl⟩
  rw [← e_u2] at hP hD
  have h := bnd_eq e_u2.symm h
  refine lv_aload_n hx hb dX5_copyFrom_30 rfl (lv_at hl 0 rfl) ?_
  refine lv_aload_n hx hb dX5_copyFrom_31 rfl (lv_at hl 1 rfl) ?_
  refine gf_X5_18 (v := .int v3_kept) S hK hP 3 rfl rfl dX5_copyFrom_32 ?_
  refine pf_X5_18 (v := .int v3_kept) S hK hP hD hS 0 rfl (Nat.le_of_ble_eq_true rfl) rfl dX5_copyFrom_35 (fun H locs hP hD hS => ?_)
  have hP : va_P D vwCl [(h0, .inr (5, [.ref h1, .ref h2, .int v3_kept])), (h1, .inl (cJ, 10, .inr (.inl u1))), (h2, .inl (cJ, 10, .inr (.inl u2))), (h3, .inr (5, [.ref h4, .ref h5, .int v3_kept])), (h4, .inl (cJ, 10, .inr (.inl r4))), (h5, .inl (cJ, 10, .inr (.inl r5)))] H := hP
  have hD : va_D A [(h0, .inr (5, [.ref h1, .ref h2, .int v3_kept])), (h1, .inl (cJ, 10, .inr (.inl u1))), (h2, .inl (cJ, 10, .inr (.inl u2))), (h3, .inr (5, [.ref h4, .ref h5, .int v3_kept])), (h4, .inl (cJ, 10, .inr (.inl r4))), (h5, .inl (cJ, 10, .inr (.inl r5)))] := hD
  subst h
  exact wRv S hr hlk (hP.sub [0, 1, 2, 3, 4, 5] rfl) (hD.sub [0, 1, 2, 3, 4, 5] (by decide) rfl) hS dX5_copyFrom_38
abbrev rm_X5_put : Room := { frames := 1, cells := 0, slots := 0, locals := 30 }
theorem dX5_put_0 : decode cX5_put 0 = .ok (.aload_n 0, 1) := by decide +kernel
theorem dX5_put_1 : decode cX5_put 1 = .ok (.getfield 9, 3) := by decide +kernel
theorem dX5_put_4 : decode cX5_put 4 = .ok (.iconst 0, 1) := by decide +kernel
theorem dX5_put_5 : decode cX5_put 5 = .ok (.aload_n 0, 1) := by decide +kernel
theorem dX5_put_6 : decode cX5_put 6 = .ok (.getfield 9, 3) := by decide +kernel
theorem dX5_put_9 : decode cX5_put 9 = .ok (.iconst 1, 1) := by decide +kernel
theorem dX5_put_10 : decode cX5_put 10 = .ok (.bipush 9, 2) := by decide +kernel
theorem dX5_put_12 : decode cX5_put 12 = .ok (.invokestatic 22, 3) := by decide +kernel
theorem dX5_put_15 : decode cX5_put 15 = .ok (.aload_n 0, 1) := by decide +kernel
theorem dX5_put_16 : decode cX5_put 16 = .ok (.getfield 15, 3) := by decide +kernel
theorem dX5_put_19 : decode cX5_put 19 = .ok (.iconst 0, 1) := by decide +kernel
theorem dX5_put_20 : decode cX5_put 20 = .ok (.aload_n 0, 1) := by decide +kernel
theorem dX5_put_21 : decode cX5_put 21 = .ok (.getfield 15, 3) := by decide +kernel
theorem dX5_put_24 : decode cX5_put 24 = .ok (.iconst 1, 1) := by decide +kernel
theorem dX5_put_25 : decode cX5_put 25 = .ok (.bipush 9, 2) := by decide +kernel
theorem dX5_put_27 : decode cX5_put 27 = .ok (.invokestatic 22, 3) := by decide +kernel
theorem dX5_put_30 : decode cX5_put 30 = .ok (.aload_n 0, 1) := by decide +kernel
theorem dX5_put_31 : decode cX5_put 31 = .ok (.getfield 9, 3) := by decide +kernel
theorem dX5_put_34 : decode cX5_put 34 = .ok (.iconst 0, 1) := by decide +kernel
theorem dX5_put_35 : decode cX5_put 35 = .ok (.lload_n 1, 1) := by decide +kernel
theorem dX5_put_36 : decode cX5_put 36 = .ok (.lastore, 1) := by decide +kernel
theorem dX5_put_37 : decode cX5_put 37 = .ok (.aload_n 0, 1) := by decide +kernel
theorem dX5_put_38 : decode cX5_put 38 = .ok (.getfield 15, 3) := by decide +kernel
theorem dX5_put_41 : decode cX5_put 41 = .ok (.iconst 0, 1) := by decide +kernel
theorem dX5_put_42 : decode cX5_put 42 = .ok (.lload_n 3, 1) := by decide +kernel
theorem dX5_put_43 : decode cX5_put 43 = .ok (.lastore, 1) := by decide +kernel
theorem dX5_put_44 : decode cX5_put 44 = .ok (.aload_n 0, 1) := by decide +kernel
theorem dX5_put_45 : decode cX5_put 45 = .ok (.aload_n 0, 1) := by decide +kernel
theorem dX5_put_46 : decode cX5_put 46 = .ok (.getfield 18, 3) := by decide +kernel
theorem dX5_put_49 : decode cX5_put 49 = .ok (.iconst 1, 1) := by decide +kernel
theorem dX5_put_50 : decode cX5_put 50 = .ok (.iadd, 1) := by decide +kernel
theorem dX5_put_51 : decode cX5_put 51 = .ok (.bipush 10, 2) := by decide +kernel
theorem dX5_put_53 : decode cX5_put 53 = .ok (.invokestatic 28, 3) := by decide +kernel
theorem dX5_put_56 : decode cX5_put 56 = .ok (.putfield 18, 3) := by decide +kernel
theorem dX5_put_59 : decode cX5_put 59 = .ok (.return_, 1) := by decide +kernel
def f_X5_put (v0_kept : Int32) (r1 r2 : Nat → Int64) (p0 p1 : Int64) : Int32 × (Nat → Int64) × (Nat → Int64) :=
  bnd (va_cpy r1 r1 0 1 9) fun (u1 : Nat → Int64) =>
  bnd (va_cpy r2 r2 0 1 9) fun (u2 : Nat → Int64) =>
  bnd (vp_updL u1 0 p0) fun (u3 : Nat → Int64) =>
  bnd (vp_updL u2 0 p1) fun (u4 : Nat → Int64) =>
  (mn32 (v0_kept + 1) 10, u3, u4)
set_option maxHeartbeats 4000000 in
set_option maxRecDepth 100000 in
theorem c_X5_put (l : Launch) (D : va_G) (cI cJ cC : ClassId) (h0 h1 h2 : Nat) (v0_kept : Int32) (r1 r2 : Nat → Int64) (sz : Nat) (p0 p1 : Int64) (T : Int32 × (Nat → Int64) × (Nat → Int64)) (h : f_X5_put v0_kept r1 r2 p0 p1 = T) : Met l yX5_put (Cond.code yX5_put cX5_put 5 none :: TB) rm_X5_put (PreW D cI cJ cC [(h0, .inr (5, [.ref h1, .ref h2, .int v0_kept])), (h1, .inl (cJ, 10, .inr (.inl r1))), (h2, .inl (cJ, 10, .inr (.inl r2)))] sz [.ref h0, .long p0, .long p1]) (QW none D [(h0, .inr (5, [.ref h1, .ref h2, .int T.1])), (h1, .inl (cJ, 10, .inr (.inl T.2.1))), (h2, .inl (cJ, 10, .inr (.inl T.2.2)))] (va_A [(h0, .inr (5, [.ref h1, .ref h2, .int v0_kept])), (h1, .inl (cJ, 10, .inr (.inl r1))), (h2, .inl (cJ, 10, .inr (.inl r2)))] sz)) 0 0 (va_A [(h0, .inr (5, [.ref h1, .ref h2, .int v0_kept])), (h1, .inl (cJ, 10, .inr (.inl r1))), (h2, .inl (cJ, 10, .inr (.inl r2)))] sz) := by
  refine metW (own := RX5) (by decide) rfl (Nat.le_of_ble_eq_true rfl) ?_
  intro p e s m below meth c S hr hlk hP hK A hAe hD hA hS ls hl
  clear hAe
  have hx := S.1
  have hb := S.2.1
  have hl : lv_has ls 5 [(0, .ref h0), (1, .long p0), (3, .long p1)] := hl
  refine lv_aload_n hx hb dX5_put_0 rfl (lv_at hl 0 rfl) ?_
  refine gf_X5_9 (v := .ref h1) S hK hP 0 rfl rfl dX5_put_1 ?_
  refine lv_iconst (v := 0) hx hb dX5_put_4 li_0 ?_
  refine lv_aload_n hx hb dX5_put_5 rfl (lv_at hl 0 rfl) ?_
  refine gf_X5_9 (v := .ref h1) S hK hP 0 rfl rfl dX5_put_6 ?_
  refine lv_iconst (v := 1) hx hb dX5_put_9 li_1 ?_
  refine lv_bipush (v := 9) hx hb dX5_put_10 lb_9 ?_
  refine cpyJ (q0 := 1) (q1 := 1) (sp9 := 0) (dp9 := 1) (n9 := 9) S hl.1 tb592 hK hP hD hS rfl rfl (by decide) (by decide) (by decide) tn_0 tn_1 tn_9 (by decide) (by decide) (fun _ _ => rfl) (Nat.le_of_ble_eq_true rfl) (Nat.le_of_ble_eq_true rfl) dX5_put_12 (fun H locs hP hD hS => ?_)
  have hP : va_P D vwCl [(h0, .inr (5, [.ref h1, .ref h2, .int v0_kept])), (h1, .inl (cJ, 10, .inr (.inl (va_cpy r1 r1 0 1 9)))), (h2, .inl (cJ, 10, .inr (.inl r2)))] H := hP
  have hD : va_D A [(h0, .inr (5, [.ref h1, .ref h2, .int v0_kept])), (h1, .inl (cJ, 10, .inr (.inl (va_cpy r1 r1 0 1 9)))), (h2, .inl (cJ, 10, .inr (.inl r2)))] := hD
  obtain ⟨u1, e_u1⟩ : ∃ z, z = va_cpy r1 r1 0 1 9 := ⟨_, rfl⟩
  rw [← e_u1] at hP hD
  have h := bnd_eq e_u1.symm h
  refine lv_aload_n hx hb dX5_put_15 rfl (lv_at hl 0 rfl) ?_
  refine gf_X5_15 (v := .ref h2) S hK hP 0 rfl rfl dX5_put_16 ?_
  refine lv_iconst (v := 0) hx hb dX5_put_19 li_0 ?_
  refine lv_aload_n hx hb dX5_put_20 rfl (lv_at hl 0 rfl) ?_
  refine gf_X5_15 (v := .ref h2) S hK hP 0 rfl rfl dX5_put_21 ?_
  refine lv_iconst (v := 1) hx hb dX5_put_24 li_1 ?_
  refine lv_bipush (v := 9) hx hb dX5_put_25 lb_9 ?_
  refine cpyJ (q0 := 2) (q1 := 2) (sp9 := 0) (dp9 := 1) (n9 := 9) S hl.1 tb592 hK hP hD hS rfl rfl (by decide) (by decide) (by decide) tn_0 tn_1 tn_9 (by decide) (by decide) (fun _ _ => rfl) (Nat.le_of_ble_eq_true rfl) (Nat.le_of_ble_eq_true rfl) dX5_put_27 (fun H locs hP hD hS => ?_)
  have hP : va_P D vwCl [(h0, .inr (5, [.ref h1, .ref h2, .int v0_kept])), (h1, .inl (cJ, 10, .inr (.inl u1))), (h2, .inl (cJ, 10, .inr (.inl (va_cpy r2 r2 0 1 9))))] H := hP
  have hD : va_D A [(h0, .inr (5, [.ref h1, .ref h2, .int v0_kept])), (h1, .inl (cJ, 10, .inr (.inl u1))), (h2, .inl (cJ, 10, .inr (.inl (va_cpy r2 r2 0 1 9))))] := hD
  obtain ⟨u2, e_u2⟩ : ∃ z, z = va_cpy r2 r2 0 1 9 := ⟨_, rfl⟩
  rw [← e_u2] at hP hD
  have h := bnd_eq e_u2.symm h
  refine lv_aload_n hx hb dX5_put_30 rfl (lv_at hl 0 rfl) ?_
  refine gf_X5_9 (v := .ref h1) S hK hP 0 rfl rfl dX5_put_31 ?_
  refine lv_iconst (v := 0) hx hb dX5_put_34 li_0 ?_
  refine lv_lload_n hx hb dX5_put_35 rfl (lv_at hl 1 rfl) ?_
  refine astJ (k := 0) (q0 := 1) S hK hP hD hS rfl vl_0_10 tn_0 dX5_put_36 (fun H locs hP hD hS => ?_)
  have hP : va_P D vwCl [(h0, .inr (5, [.ref h1, .ref h2, .int v0_kept])), (h1, .inl (cJ, 10, .inr (.inl (vp_updL u1 0 p0)))), (h2, .inl (cJ, 10, .inr (.inl u2)))] H := hP
  have hD : va_D A [(h0, .inr (5, [.ref h1, .ref h2, .int v0_kept])), (h1, .inl (cJ, 10, .inr (.inl (vp_updL u1 0 p0)))), (h2, .inl (cJ, 10, .inr (.inl u2)))] := hD
  obtain ⟨u3, e_u3⟩ : ∃ z, z = vp_updL u1 0 p0 := ⟨_, rfl⟩
  rw [← e_u3] at hP hD
  have h := bnd_eq e_u3.symm h
  refine lv_aload_n hx hb dX5_put_37 rfl (lv_at hl 0 rfl) ?_
  refine gf_X5_15 (v := .ref h2) S hK hP 0 rfl rfl dX5_put_38 ?_
  refine lv_iconst (v := 0) hx hb dX5_put_41 li_0 ?_
  refine lv_lload_n hx hb dX5_put_42 rfl (lv_at hl 2 rfl) ?_
  refine astJ (k := 0) (q0 := 2) S hK hP hD hS rfl vl_0_10 tn_0 dX5_put_43 (fun H locs hP hD hS => ?_)
  have hP : va_P D vwCl [(h0, .inr (5, [.ref h1, .ref h2, .int v0_kept])), (h1, .inl (cJ, 10, .inr (.inl u3))), (h2, .inl (cJ, 10, .inr (.inl (vp_updL u2 0 p1))))] H := hP
  have hD : va_D A [(h0, .inr (5, [.ref h1, .ref h2, .int v0_kept])), (h1, .inl (cJ, 10, .inr (.inl u3))), (h2, .inl (cJ, 10, .inr (.inl (vp_updL u2 0 p1))))] := hD
  obtain ⟨u4, e_u4⟩ : ∃ z, z = vp_updL u2 0 p1 := ⟨_, rfl⟩
  rw [← e_u4] at hP hD
  have h := bnd_eq e_u4.symm h
  refine lv_aload_n hx hb dX5_put_44 rfl (lv_at hl 0 rfl) ?_
  refine lv_aload_n hx hb dX5_put_45 rfl (lv_at hl 0 rfl) ?_
  refine gf_X5_18 (v := .int v0_kept) S hK hP 0 rfl rfl dX5_put_46 ?_
  refine lv_iconst (v := 1) hx hb dX5_put_49 li_1 ?_
  refine lv_iadd hx hb dX5_put_50 ?_
  refine lv_bipush (v := 10) hx hb dX5_put_51 lb_10 ?_
  refine mn32w S hl.1 tb595 (Nat.le_of_ble_eq_true rfl) (Nat.le_of_ble_eq_true rfl) (Nat.zero_le _) (Nat.zero_le _) dX5_put_53 ?_
  refine pf_X5_18 (v := .int (mn32 (v0_kept + 1) 10)) S hK hP hD hS 0 rfl (Nat.le_of_ble_eq_true rfl) rfl dX5_put_56 (fun H locs hP hD hS => ?_)
  have hP : va_P D vwCl [(h0, .inr (5, [.ref h1, .ref h2, .int (mn32 (v0_kept + 1) 10)])), (h1, .inl (cJ, 10, .inr (.inl u3))), (h2, .inl (cJ, 10, .inr (.inl u4)))] H := hP
  have hD : va_D A [(h0, .inr (5, [.ref h1, .ref h2, .int (mn32 (v0_kept + 1) 10)])), (h1, .inl (cJ, 10, .inr (.inl u3))), (h2, .inl (cJ, 10, .inr (.inl u4)))] := hD
  subst h
  exact wRv S hr hlk (hP.sub [0, 1, 2] rfl) (hD.sub [0, 1, 2] (by decide) rfl) hS dX5_put_59
abbrev rm_X5_rateOver : Room := { frames := 0, cells := 0, slots := 0, locals := 0 }
theorem dX5_rateOver_0 : decode cX5_rateOver 0 = .ok (.lconst 0, 1) := by decide +kernel
theorem dX5_rateOver_1 : decode cX5_rateOver 1 = .ok (.lstore_n 2, 1) := by decide +kernel
theorem dX5_rateOver_2 : decode cX5_rateOver 2 = .ok (.lconst 0, 1) := by decide +kernel
theorem dX5_rateOver_3 : decode cX5_rateOver 3 = .ok (.lstore 4, 2) := by decide +kernel
theorem dX5_rateOver_5 : decode cX5_rateOver 5 = .ok (.iload_n 1, 1) := by decide +kernel
theorem dX5_rateOver_6 : decode cX5_rateOver 6 = .ok (.aload_n 0, 1) := by decide +kernel
theorem dX5_rateOver_7 : decode cX5_rateOver 7 = .ok (.getfield 18, 3) := by decide +kernel
theorem dX5_rateOver_10 : decode cX5_rateOver 10 = .ok (.if_icmp .ge 7, 3) := by decide +kernel
theorem dX5_rateOver_13 : decode cX5_rateOver 13 = .ok (.iload_n 1, 1) := by decide +kernel
theorem dX5_rateOver_14 : decode cX5_rateOver 14 = .ok (.goto 7, 3) := by decide +kernel
theorem dX5_rateOver_17 : decode cX5_rateOver 17 = .ok (.aload_n 0, 1) := by decide +kernel
theorem dX5_rateOver_18 : decode cX5_rateOver 18 = .ok (.getfield 18, 3) := by decide +kernel
theorem dX5_rateOver_21 : decode cX5_rateOver 21 = .ok (.istore 6, 2) := by decide +kernel
theorem dX5_rateOver_23 : decode cX5_rateOver 23 = .ok (.iconst 0, 1) := by decide +kernel
theorem dX5_rateOver_24 : decode cX5_rateOver 24 = .ok (.istore 7, 2) := by decide +kernel
theorem dX5_rateOver_26 : decode cX5_rateOver 26 = .ok (.iload 7, 2) := by decide +kernel
theorem dX5_rateOver_28 : decode cX5_rateOver 28 = .ok (.iload 6, 2) := by decide +kernel
theorem dX5_rateOver_30 : decode cX5_rateOver 30 = .ok (.if_icmp .ge 51, 3) := by decide +kernel
theorem dX5_rateOver_33 : decode cX5_rateOver 33 = .ok (.iload 7, 2) := by decide +kernel
theorem dX5_rateOver_35 : decode cX5_rateOver 35 = .ok (.aload_n 0, 1) := by decide +kernel
theorem dX5_rateOver_36 : decode cX5_rateOver 36 = .ok (.getfield 9, 3) := by decide +kernel
theorem dX5_rateOver_39 : decode cX5_rateOver 39 = .ok (.arraylength, 1) := by decide +kernel
theorem dX5_rateOver_40 : decode cX5_rateOver 40 = .ok (.if_icmp .ge 41, 3) := by decide +kernel
theorem dX5_rateOver_43 : decode cX5_rateOver 43 = .ok (.iload 7, 2) := by decide +kernel
theorem dX5_rateOver_45 : decode cX5_rateOver 45 = .ok (.aload_n 0, 1) := by decide +kernel
theorem dX5_rateOver_46 : decode cX5_rateOver 46 = .ok (.getfield 15, 3) := by decide +kernel
theorem dX5_rateOver_49 : decode cX5_rateOver 49 = .ok (.arraylength, 1) := by decide +kernel
theorem dX5_rateOver_50 : decode cX5_rateOver 50 = .ok (.if_icmp .ge 31, 3) := by decide +kernel
theorem dX5_rateOver_53 : decode cX5_rateOver 53 = .ok (.lload_n 2, 1) := by decide +kernel
theorem dX5_rateOver_54 : decode cX5_rateOver 54 = .ok (.aload_n 0, 1) := by decide +kernel
theorem dX5_rateOver_55 : decode cX5_rateOver 55 = .ok (.getfield 9, 3) := by decide +kernel
theorem dX5_rateOver_58 : decode cX5_rateOver 58 = .ok (.iload 7, 2) := by decide +kernel
theorem dX5_rateOver_60 : decode cX5_rateOver 60 = .ok (.laload, 1) := by decide +kernel
theorem dX5_rateOver_61 : decode cX5_rateOver 61 = .ok (.ladd, 1) := by decide +kernel
theorem dX5_rateOver_62 : decode cX5_rateOver 62 = .ok (.lstore_n 2, 1) := by decide +kernel
theorem dX5_rateOver_63 : decode cX5_rateOver 63 = .ok (.lload 4, 2) := by decide +kernel
theorem dX5_rateOver_65 : decode cX5_rateOver 65 = .ok (.aload_n 0, 1) := by decide +kernel
theorem dX5_rateOver_66 : decode cX5_rateOver 66 = .ok (.getfield 15, 3) := by decide +kernel
theorem dX5_rateOver_69 : decode cX5_rateOver 69 = .ok (.iload 7, 2) := by decide +kernel
theorem dX5_rateOver_71 : decode cX5_rateOver 71 = .ok (.laload, 1) := by decide +kernel
theorem dX5_rateOver_72 : decode cX5_rateOver 72 = .ok (.ladd, 1) := by decide +kernel
theorem dX5_rateOver_73 : decode cX5_rateOver 73 = .ok (.lstore 4, 2) := by decide +kernel
theorem dX5_rateOver_75 : decode cX5_rateOver 75 = .ok (.iinc 7 1, 3) := by decide +kernel
theorem dX5_rateOver_78 : decode cX5_rateOver 78 = .ok (.goto (-52), 3) := by decide +kernel
theorem dX5_rateOver_81 : decode cX5_rateOver 81 = .ok (.lload 4, 2) := by decide +kernel
theorem dX5_rateOver_83 : decode cX5_rateOver 83 = .ok (.lconst 0, 1) := by decide +kernel
theorem dX5_rateOver_84 : decode cX5_rateOver 84 = .ok (.lcmp, 1) := by decide +kernel
theorem dX5_rateOver_85 : decode cX5_rateOver 85 = .ok (.ifCond .le 11, 3) := by decide +kernel
theorem dX5_rateOver_88 : decode cX5_rateOver 88 = .ok (.lload_n 2, 1) := by decide +kernel
theorem dX5_rateOver_89 : decode cX5_rateOver 89 = .ok (.lload 4, 2) := by decide +kernel
theorem dX5_rateOver_91 : decode cX5_rateOver 91 = .ok (.ldiv, 1) := by decide +kernel
theorem dX5_rateOver_92 : decode cX5_rateOver 92 = .ok (.l2i, 1) := by decide +kernel
theorem dX5_rateOver_93 : decode cX5_rateOver 93 = .ok (.goto 4, 3) := by decide +kernel
theorem dX5_rateOver_96 : decode cX5_rateOver 96 = .ok (.iconst 0, 1) := by decide +kernel
theorem dX5_rateOver_97 : decode cX5_rateOver 97 = .ok (.ireturn, 1) := by decide +kernel
def f_X5_rateOver_b26 (r1 r2 : Nat → Int64) : Nat → Int64 → Int64 → Int32 → Int32 → Int32
  | 0, _, _, _, _ => 0
  | n + 1, l2, l4, l6, l7 =>
    if l6 ≤ l7 then
      if l4 ≤ 0 then
        0
      else
        (l2 / l4).toInt32
    else
      if 10 ≤ l7 then
        if l4 ≤ 0 then
          0
        else
          (l2 / l4).toInt32
      else
        if 10 ≤ l7 then
          if l4 ≤ 0 then
            0
          else
            (l2 / l4).toInt32
        else
          bnd (l2 + (r1 l7.toNatClampNeg)) fun (z7 : Int64) =>
          bnd (l4 + (r2 l7.toNatClampNeg)) fun (z8 : Int64) =>
          f_X5_rateOver_b26 r1 r2 n z7 z8 l6 (l7 + 1)
def f_X5_rateOver (v0_kept : Int32) (r1 r2 : Nat → Int64) (p0 : Int32) : Int32 :=
  if v0_kept ≤ p0 then
    f_X5_rateOver_b26 r1 r2 ((((10 : Int32).toInt - (0 : Int32).toInt).toNat) + 1) 0 0 v0_kept 0
  else
    f_X5_rateOver_b26 r1 r2 ((((10 : Int32).toInt - (0 : Int32).toInt).toNat) + 1) 0 0 p0 0
set_option maxHeartbeats 4000000 in
set_option maxRecDepth 100000 in
theorem k_X5_rateOver_b26 {p : Program} {l : Launch} {e : Env} {s : State} {m : MethodId} {args : Array Value} {below : List Frame} {meth : Method} {c : Code} {D : va_G} {cI cJ cC : ClassId} {h0 h1 h2 : Nat} {v0_kept : Int32} {r1 r2 : Nat → Int64} {t0 : Int32}(S : CallFix p m c cX5_rateOver 8 s args TB RX5) (hr : meth.sig.returnType = (some .int)) (hlk : meth.locks = false) (hK : va_K D vwCl (ty3 cI cJ cC) s) (hP : va_P D vwCl [(h0, .inr (5, [.ref h1, .ref h2, .int v0_kept])), (h1, .inl (cJ, 10, .inr (.inl r1))), (h2, .inl (cJ, 10, .inr (.inl r2)))] s.heap) : ∀ (n : Nat) (l2 l4 : Int64) (l6 l7 : Int32) (ls : Array Slot), 0 ≤ l7 → ((10 : Int32).toInt - l7.toInt).toNat < n → f_X5_rateOver_b26 r1 r2 n l2 l4 l6 l7 = t0 → lv_has ls 8 [(0, .ref h0), (2, .long l2), (4, .long l4), (6, .int l6), (7, .int l7)] → W p l e rm_X5_rateOver s m args below meth c s.heap [] 0 0 (MQ below (QR (some (.int t0))) args s 0 0 free0) (F0 m 26 ls []) := by
  have hx := S.1
  have hb := S.2.1
  intro n
  induction n with
  | zero => intro l2 l4 l6 l7 ls hi0 hmu; exact absurd hmu (Nat.not_lt_zero _)
  | succ n ih =>
    intro l2 l4 l6 l7 ls hi0 hmu h hl
    refine lv_iload hx hb dX5_rateOver_26 (lv_at hl 4 rfl) ?_
    refine lv_iload hx hb dX5_rateOver_28 (lv_at hl 3 rfl) ?_
    refine lv_icmp_ge (tgt := 81) hx hb dX5_rateOver_30 (by decide) (fun c1 => ?_) (fun c1 => ?_)
    · have h := iteP c1 h
      refine lv_lload hx hb dX5_rateOver_81 (lv_at hl 2 rfl) ?_
      refine lv_lconst (v := 0) hx hb dX5_rateOver_83 rfl ?_
      refine lc_le (tgt := 96) hx hb dX5_rateOver_84 dX5_rateOver_85 (by decide) (fun c2 => ?_) (fun c2 => ?_)
      · have h := iteP c2 h
        refine lv_iconst (v := 0) hx hb dX5_rateOver_96 li_0 ?_
        subst h
        exact rRi S hr hlk dX5_rateOver_97
      · have h := iteN c2 h
        refine lv_lload_n hx hb dX5_rateOver_88 rfl (lv_at hl 1 rfl) ?_
        refine lv_lload hx hb dX5_rateOver_89 (lv_at hl 2 rfl) ?_
        refine lv_ldiv hx hb dX5_rateOver_91 (pos_ne64 (nle64 c2)) ?_
        refine lv_l2i hx hb dX5_rateOver_92 rfl ?_
        refine lv_goto (tgt := 97) hx hb dX5_rateOver_93 (by decide) ?_
        subst h
        exact rRi S hr hlk dX5_rateOver_97
    · have h := iteN c1 h
      refine lv_iload hx hb dX5_rateOver_33 (lv_at hl 4 rfl) ?_
      refine lv_aload_n hx hb dX5_rateOver_35 rfl (lv_at hl 0 rfl) ?_
      refine gf_X5_9 (v := .ref h1) S hK hP 0 rfl rfl dX5_rateOver_36 ?_
      refine va_alen hx hb hK hP 1 1 rfl rfl (v := 10) rfl dX5_rateOver_39 ?_
      refine lv_icmp_ge (tgt := 81) hx hb dX5_rateOver_40 (by decide) (fun c3 => ?_) (fun c3 => ?_)
      · have h := iteP c3 h
        refine lv_lload hx hb dX5_rateOver_81 (lv_at hl 2 rfl) ?_
        refine lv_lconst (v := 0) hx hb dX5_rateOver_83 rfl ?_
        refine lc_le (tgt := 96) hx hb dX5_rateOver_84 dX5_rateOver_85 (by decide) (fun c4 => ?_) (fun c4 => ?_)
        · have h := iteP c4 h
          refine lv_iconst (v := 0) hx hb dX5_rateOver_96 li_0 ?_
          subst h
          exact rRi S hr hlk dX5_rateOver_97
        · have h := iteN c4 h
          refine lv_lload_n hx hb dX5_rateOver_88 rfl (lv_at hl 1 rfl) ?_
          refine lv_lload hx hb dX5_rateOver_89 (lv_at hl 2 rfl) ?_
          refine lv_ldiv hx hb dX5_rateOver_91 (pos_ne64 (nle64 c4)) ?_
          refine lv_l2i hx hb dX5_rateOver_92 rfl ?_
          refine lv_goto (tgt := 97) hx hb dX5_rateOver_93 (by decide) ?_
          subst h
          exact rRi S hr hlk dX5_rateOver_97
      · have h := iteN c3 h
        refine lv_iload hx hb dX5_rateOver_43 (lv_at hl 4 rfl) ?_
        refine lv_aload_n hx hb dX5_rateOver_45 rfl (lv_at hl 0 rfl) ?_
        refine gf_X5_15 (v := .ref h2) S hK hP 0 rfl rfl dX5_rateOver_46 ?_
        refine va_alen hx hb hK hP 2 1 rfl rfl (v := 10) rfl dX5_rateOver_49 ?_
        refine lv_icmp_ge (tgt := 81) hx hb dX5_rateOver_50 (by decide) (fun c5 => ?_) (fun c5 => ?_)
        · have h := iteP c5 h
          refine lv_lload hx hb dX5_rateOver_81 (lv_at hl 2 rfl) ?_
          refine lv_lconst (v := 0) hx hb dX5_rateOver_83 rfl ?_
          refine lc_le (tgt := 96) hx hb dX5_rateOver_84 dX5_rateOver_85 (by decide) (fun c6 => ?_) (fun c6 => ?_)
          · have h := iteP c6 h
            refine lv_iconst (v := 0) hx hb dX5_rateOver_96 li_0 ?_
            subst h
            exact rRi S hr hlk dX5_rateOver_97
          · have h := iteN c6 h
            refine lv_lload_n hx hb dX5_rateOver_88 rfl (lv_at hl 1 rfl) ?_
            refine lv_lload hx hb dX5_rateOver_89 (lv_at hl 2 rfl) ?_
            refine lv_ldiv hx hb dX5_rateOver_91 (pos_ne64 (nle64 c6)) ?_
            refine lv_l2i hx hb dX5_rateOver_92 rfl ?_
            refine lv_goto (tgt := 97) hx hb dX5_rateOver_93 (by decide) ?_
            subst h
            exact rRi S hr hlk dX5_rateOver_97
        · have h := iteN c5 h
          refine lv_lload_n hx hb dX5_rateOver_53 rfl (lv_at hl 1 rfl) ?_
          refine lv_aload_n hx hb dX5_rateOver_54 rfl (lv_at hl 0 rfl) ?_
          refine gf_X5_9 (v := .ref h1) S hK hP 0 rfl rfl dX5_rateOver_55 ?_
          refine lv_iload hx hb dX5_rateOver_58 (lv_at hl 4 rfl) ?_
          refine aldJ (k := l7.toNatClampNeg) (q0 := 1) S hK hP rfl (vpb hi0 (nle32 c5) rfl) rfl dX5_rateOver_60 ?_
          refine lv_ladd hx hb dX5_rateOver_61 ?_
          refine lv_topl (fun z7 e_z7 => ?_)
          have h := bnd_eq e_z7.symm h
          refine lv_lstore_n (lv' := [(2, .long z7), (0, .ref h0), (4, .long l4), (6, .int l6), (7, .int l7)]) hx hb dX5_rateOver_62 rfl hl (by decide) rfl (fun ls hl => ?_)
          refine lv_lload hx hb dX5_rateOver_63 (lv_at hl 2 rfl) ?_
          refine lv_aload_n hx hb dX5_rateOver_65 rfl (lv_at hl 1 rfl) ?_
          refine gf_X5_15 (v := .ref h2) S hK hP 0 rfl rfl dX5_rateOver_66 ?_
          refine lv_iload hx hb dX5_rateOver_69 (lv_at hl 4 rfl) ?_
          refine aldJ (k := l7.toNatClampNeg) (q0 := 2) S hK hP rfl (vpb hi0 (nle32 c5) rfl) rfl dX5_rateOver_71 ?_
          refine lv_ladd hx hb dX5_rateOver_72 ?_
          refine lv_topl (fun z8 e_z8 => ?_)
          have h := bnd_eq e_z8.symm h
          refine lv_lstore (lv' := [(4, .long z8), (2, .long z7), (0, .ref h0), (6, .int l6), (7, .int l7)]) hx hb dX5_rateOver_73 hl (by decide) rfl (fun ls hl => ?_)
          refine lv_iinc (v := l7 + 1) (lv' := [(7, .int (l7 + 1)), (4, .long z8), (2, .long z7), (0, .ref h0), (6, .int l6)]) hx hb dX5_rateOver_75 hl (k := 4) rfl rfl (by decide) rfl (fun ls hl => ?_)
          refine lv_goto (tgt := 26) hx hb dX5_rateOver_78 (by decide) ?_
          exact ih z7 z8 l6 (l7 + 1) _ (by first | exact inc_nn hi0 (by assumption) | exact inc_nn hi0 (nle32 (by assumption))) (by first | exact mu_upA (by assumption) hmu | exact mu_upB (by assumption) hmu) h  (lv_sub hl [3, 2, 1, 4, 0] rfl)
set_option maxHeartbeats 4000000 in
set_option maxRecDepth 100000 in
theorem c_X5_rateOver (l : Launch) (D : va_G) (cI cJ cC : ClassId) (h0 h1 h2 : Nat) (v0_kept : Int32) (r1 r2 : Nat → Int64) (p0 : Int32) (t0 : Int32) (h : f_X5_rateOver v0_kept r1 r2 p0 = t0) : Met l yX5_rateOver (Cond.code yX5_rateOver cX5_rateOver 8 (some .int) :: TB) rm_X5_rateOver (PreR D cI cJ cC [(h0, .inr (5, [.ref h1, .ref h2, .int v0_kept])), (h1, .inl (cJ, 10, .inr (.inl r1))), (h2, .inl (cJ, 10, .inr (.inl r2)))] [.ref h0, .int p0]) (QR (some (.int t0))) 0 0 free0 := by
  refine metR (own := RX5) (by decide) rfl (Nat.le_of_ble_eq_true rfl) ?_
  intro p e s m below meth c S hr hlk hP hK ls hl
  have hx := S.1
  have hb := S.2.1
  have hl : lv_has ls 8 [(0, .ref h0), (1, .int p0)] := hl
  refine lv_lconst (v := 0) hx hb dX5_rateOver_0 rfl ?_
  refine lv_lstore_n (lv' := [(2, .long 0), (0, .ref h0), (1, .int p0)]) hx hb dX5_rateOver_1 rfl hl (by decide) rfl (fun ls hl => ?_)
  refine lv_lconst (v := 0) hx hb dX5_rateOver_2 rfl ?_
  refine lv_lstore (lv' := [(4, .long 0), (2, .long 0), (0, .ref h0), (1, .int p0)]) hx hb dX5_rateOver_3 hl (by decide) rfl (fun ls hl => ?_)
  refine lv_iload_n hx hb dX5_rateOver_5 rfl (lv_at hl 3 rfl) ?_
  refine lv_aload_n hx hb dX5_rateOver_6 rfl (lv_at hl 2 rfl) ?_
  refine gf_X5_18 (v := .int v0_kept) S hK hP 0 rfl rfl dX5_rateOver_7 ?_
  refine lv_icmp_ge (tgt := 17) hx hb dX5_rateOver_10 (by decide) (fun c1 => ?_) (fun c1 => ?_)
  · have h := iteP c1 h
    refine lv_aload_n hx hb dX5_rateOver_17 rfl (lv_at hl 2 rfl) ?_
    refine gf_X5_18 (v := .int v0_kept) S hK hP 0 rfl rfl dX5_rateOver_18 ?_
    refine lv_istore (lv' := [(6, .int v0_kept), (4, .long 0), (2, .long 0), (0, .ref h0), (1, .int p0)]) hx hb dX5_rateOver_21 hl (by decide) rfl (fun ls hl => ?_)
    refine lv_iconst (v := 0) hx hb dX5_rateOver_23 li_0 ?_
    refine lv_istore (lv' := [(7, .int 0), (6, .int v0_kept), (4, .long 0), (2, .long 0), (0, .ref h0), (1, .int p0)]) hx hb dX5_rateOver_24 hl (by decide) rfl (fun ls hl => ?_)
    exact k_X5_rateOver_b26 S hr hlk hK hP _ 0 0 v0_kept 0 _ (by decide) (Nat.lt_succ_self _) h  (lv_sub hl [4, 3, 2, 1, 0] rfl)
  · have h := iteN c1 h
    refine lv_iload_n hx hb dX5_rateOver_13 rfl (lv_at hl 3 rfl) ?_
    refine lv_goto (tgt := 21) hx hb dX5_rateOver_14 (by decide) ?_
    refine lv_istore (lv' := [(6, .int p0), (4, .long 0), (2, .long 0), (0, .ref h0), (1, .int p0)]) hx hb dX5_rateOver_21 hl (by decide) rfl (fun ls hl => ?_)
    refine lv_iconst (v := 0) hx hb dX5_rateOver_23 li_0 ?_
    refine lv_istore (lv' := [(7, .int 0), (6, .int p0), (4, .long 0), (2, .long 0), (0, .ref h0), (1, .int p0)]) hx hb dX5_rateOver_24 hl (by decide) rfl (fun ls hl => ?_)
    exact k_X5_rateOver_b26 S hr hlk hK hP _ 0 0 p0 0 _ (by decide) (Nat.lt_succ_self _) h  (lv_sub hl [4, 3, 2, 1, 0] rfl)
