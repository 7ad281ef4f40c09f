abbrev rm_X7_empty : Room := { frames := 0, cells := 0, slots := 0, locals := 0 }
theorem dX7_empty_0 : decode cX7_empty 0 = .ok (.aload_n 0, 1) := by decide +kernel
theorem dX7_empty_1 : decode cX7_empty 1 = .ok (.iconst 0, 1) := by decide +kernel
theorem dX7_empty_2 : decode cX7_empty 2 = .ok (.putfield 15, 3) := by decide +kernel
theorem dX7_empty_5 : decode cX7_empty 5 = .ok (.return_, 1) := by decide +kernel
theorem pf_X7_15 {p : Program} {l : Launch} {e : Env} {R : Room} {s : State} {m : MethodId} {args : Array Value} {below : List Frame} {meth : Method} {c : Code} {H H0 : Heap} {locs : List Loc} {cells slots : Nat} {Q : State → Prop} {cc : ByteArray} {pc nL : Nat} {ls : Array Slot} {rest : List Value} {D : va_G} {ws : va_W} {tys : List (ClassId × FieldType)} {A : Nat → Prop} {x9 : Int32} {v : Value} (S : CallFix p m c cc nL s args TB RX7) (hK : va_K D vwCl tys s) (hP : va_P D vwCl ws H) (hD : va_D A ws) (hS : va_S A H0 H locs) (q0 : Nat) {a : Nat} {fs : List Value} (he : ws[q0]? = some (a, .inr (7, fs))) (hle : 1 < fs.length) (hv9 : v = .int x9) (hdg : decode cc pc = .ok (.putfield 15, 3))
    (kk : ∀ (H1 : Heap) (locs1 : List Loc), va_P D vwCl (ws.set q0 (a, .inr (7, fs.set 1 v))) H1 → va_D A (ws.set q0 (a, .inr (7, fs.set 1 v))) → va_S A H0 H1 locs1 → W p l e R s m args below meth c H1 locs1 cells slots Q (F0 m (pc + 3) ls rest)) : W p l e R s m args below meth c H locs cells slots Q (F0 m pc ls (v :: .ref a :: rest)) := by
  subst hv9
  exact va_put (D := D) (ci := 7) (ty := .int) (C := RX7) (T := TX7) (N := 2) S.1 S.2.1 S.2.2.2.2 iwX7 tyX7 tyX7_ok nmX7 S.2.2.2.1 hK hP hD hS q0 he rfl 1 (by decide) (S.2.2.2.2 _ tb127) (fun _ h9 => h9) rfl (by decide +kernel) rfl rfl hle hdg kk
def f_X7_empty  : Int32 :=
  0
set_option maxHeartbeats 4000000 in
set_option maxRecDepth 100000 in
theorem c_X7_empty (l : Launch) (D : va_G) (cI cJ cC : ClassId) (h0 kthis_rungs : Nat) (v0_segments : Int32) (sz : Nat)  (t0 : Int32) (h : f_X7_empty = t0) : Met l yX7_empty (Cond.code yX7_empty cX7_empty 1 none :: TB) rm_X7_empty (PreW D cI cJ cC [(h0, .inr (7, [.ref kthis_rungs, .int v0_segments]))] sz [.ref h0]) (QW none D [(h0, .inr (7, [.ref kthis_rungs, .int t0]))] (va_A [(h0, .inr (7, [.ref kthis_rungs, .int v0_segments]))] sz)) 0 0 (va_A [(h0, .inr (7, [.ref kthis_rungs, .int v0_segments]))] sz) := by
  refine metW (own := RX7) (by decide) rfl (Nat.le_of_ble_eq_true rfl) ?_
  intro p e s m below meth c S hr hlk hP hK A hAe hD hA hS ls hl
  clear hAe
  have hx := S.1
  have hb := S.2.1
  have hl : lv_has ls 1 [(0, .ref h0)] := hl
  refine lv_aload_n hx hb dX7_empty_0 rfl (lv_at hl 0 rfl) ?_
  refine lv_iconst (v := 0) hx hb dX7_empty_1 li_0 ?_
  refine pf_X7_15 (v := .int 0) S hK hP hD hS 0 rfl (Nat.le_of_ble_eq_true rfl) rfl dX7_empty_2 (fun H locs hP hD hS => ?_)
  have hP : va_P D vwCl [(h0, .inr (7, [.ref kthis_rungs, .int 0]))] H := hP
  have hD : va_D A [(h0, .inr (7, [.ref kthis_rungs, .int 0]))] := hD
  subst h
  exact wRv S hr hlk (hP.sub [0] rfl) (hD.sub [0] (by decide) rfl) hS dX7_empty_5
abbrev rm_X7_copyFrom : Room := { frames := 1, cells := 0, slots := 0, locals := 30 }
theorem dX7_copyFrom_0 : decode cX7_copyFrom 0 = .ok (.aload_n 1, 1) := by decide +kernel
theorem dX7_copyFrom_1 : decode cX7_copyFrom 1 = .ok (.getfield 9, 3) := by decide +kernel
theorem dX7_copyFrom_4 : decode cX7_copyFrom 4 = .ok (.iconst 0, 1) := by decide +kernel
theorem dX7_copyFrom_5 : decode cX7_copyFrom 5 = .ok (.aload_n 0, 1) := by decide +kernel
theorem dX7_copyFrom_6 : decode cX7_copyFrom 6 = .ok (.getfield 9, 3) := by decide +kernel
theorem dX7_copyFrom_9 : decode cX7_copyFrom 9 = .ok (.iconst 0, 1) := by decide +kernel
theorem dX7_copyFrom_10 : decode cX7_copyFrom 10 = .ok (.sipush 200, 3) := by decide +kernel
theorem dX7_copyFrom_13 : decode cX7_copyFrom 13 = .ok (.invokestatic 19, 3) := by decide +kernel
theorem dX7_copyFrom_16 : decode cX7_copyFrom 16 = .ok (.aload_n 0, 1) := by decide +kernel
theorem dX7_copyFrom_17 : decode cX7_copyFrom 17 = .ok (.aload_n 1, 1) := by decide +kernel
theorem dX7_copyFrom_18 : decode cX7_copyFrom 18 = .ok (.getfield 15, 3) := by decide +kernel
theorem dX7_copyFrom_21 : decode cX7_copyFrom 21 = .ok (.putfield 15, 3) := by decide +kernel
theorem dX7_copyFrom_24 : decode cX7_copyFrom 24 = .ok (.return_, 1) := by decide +kernel
theorem gf_X7_9 {p : Program} {l : Launch} {e : Env} {R : Room} {s : State} {m : MethodId} {args : Array Value} {below : List Frame} {meth : Method} {c : Code} {H : Heap} {locs : List Loc} {cells slots : Nat} {Q : State → Prop} {cc : ByteArray} {pc nL : Nat} {ls : Array Slot} {rest : List Value} {D : va_G} {ws : va_W} {tys : List (ClassId × FieldType)} (S : CallFix p m c cc nL s args TB RX7) (hK : va_K D vwCl tys s) (hP : va_P D vwCl ws H) (q0 : Nat) {a : Nat} {fs : List Value} (he : ws[q0]? = some (a, .inr (7, fs))) {v : Value} (hv : fs[0]? = some v) (hdg : decode cc pc = .ok (.getfield 9, 3))
    (kk : W p l e R s m args below meth c H locs cells slots Q (F0 m (pc + 3) ls (v :: rest))) : W p l e R s m args below meth c H locs cells slots Q (F0 m pc ls (.ref a :: rest)) :=
  va_get (D := D) (ci := 7) (C := RX7) (T := TX7) (N := 2) S.1 S.2.1 S.2.2.2.2 iwX7 S.2.2.2.1 hK hP q0 he rfl 0 (by decide) (S.2.2.2.2 _ tb126) (fun _ h9 => h9) hv hdg kk
theorem gf_X7_15 {p : Program} {l : Launch} {e : Env} {R : Room} {s : State} {m : MethodId} {args : Array Value} {below : List Frame} {meth : Method} {c : Code} {H : Heap} {locs : List Loc} {cells slots : Nat} {Q : State → Prop} {cc : ByteArray} {pc nL : Nat} {ls : Array Slot} {rest : List Value} {D : va_G} {ws : va_W} {tys : List (ClassId × FieldType)} (S : CallFix p m c cc nL s args TB RX7) (hK : va_K D vwCl tys s) (hP : va_P D vwCl ws H) (q0 : Nat) {a : Nat} {fs : List Value} (he : ws[q0]? = some (a, .inr (7, fs))) {v : Value} (hv : fs[1]? = some v) (hdg : decode cc pc = .ok (.getfield 15, 3))
    (kk : W p l e R s m args below meth c H locs cells slots Q (F0 m (pc + 3) ls (v :: rest))) : W p l e R s m args below meth c H locs cells slots Q (F0 m pc ls (.ref a :: rest)) :=
  va_get (D := D) (ci := 7) (C := RX7) (T := TX7) (N := 2) S.1 S.2.1 S.2.2.2.2 iwX7 S.2.2.2.1 hK hP q0 he rfl 1 (by decide) (S.2.2.2.2 _ tb127) (fun _ h9 => h9) hv hdg kk
def f_X7_copyFrom (r1 : Nat → Int32) (v2_segments : Int32) (r3 : Nat → Int32) : Int32 × (Nat → Int32) :=
  bnd (va_cpy r3 r1 0 0 200) fun (u1 : Nat → Int32) =>
  (v2_segments, u1)
set_option maxHeartbeats 4000000 in
set_option maxRecDepth 100000 in
theorem c_X7_copyFrom (l : Launch) (D : va_G) (cI cJ cC : ClassId) (h0 h1 h2 h3 : Nat) (v0_segments : Int32) (r1 : Nat → Int32) (v2_segments : Int32) (r3 : Nat → Int32) (sz : Nat)  (T : Int32 × (Nat → Int32)) (h : f_X7_copyFrom r1 v2_segments r3 = T) : Met l yX7_copyFrom (Cond.code yX7_copyFrom cX7_copyFrom 2 none :: TB) rm_X7_copyFrom (PreW D cI cJ cC [(h0, .inr (7, [.ref h1, .int v0_segments])), (h1, .inl (cI, 200, .inl r1)), (h2, .inr (7, [.ref h3, .int v2_segments])), (h3, .inl (cI, 200, .inl r3))] sz [.ref h0, .ref h2]) (QW none D [(h0, .inr (7, [.ref h1, .int T.1])), (h1, .inl (cI, 200, .inl T.2)), (h2, .inr (7, [.ref h3, .int v2_segments])), (h3, .inl (cI, 200, .inl r3))] (va_A [(h0, .inr (7, [.ref h1, .int v0_segments])), (h1, .inl (cI, 200, .inl r1)), (h2, .inr (7, [.ref h3, .int v2_segments])), (h3, .inl (cI, 200, .inl r3))] sz)) 0 0 (va_A [(h0, .inr (7, [.ref h1, .int v0_segments])), (h1, .inl (cI, 200, .inl r1)), (h2, .inr (7, [.ref h3, .int v2_segments])), (h3, .inl (cI, 200, .inl r3))] sz) := by
  refine metW (own := RX7) (by decide) rfl (Nat.le_of_ble_eq_true rfl) ?_
  intro p e s m below meth c S hr hlk hP hK A hAe hD hA hS ls hl
  clear hAe
  have hx := S.1
  have hb := S.2.1
  have hl : lv_has ls 2 [(0, .ref h0), (1, .ref h2)] := hl
  refine lv_aload_n hx hb dX7_copyFrom_0 rfl (lv_at hl 1 rfl) ?_
  refine gf_X7_9 (v := .ref h3) S hK hP 2 rfl rfl dX7_copyFrom_1 ?_
  refine lv_iconst (v := 0) hx hb dX7_copyFrom_4 li_0 ?_
  refine lv_aload_n hx hb dX7_copyFrom_5 rfl (lv_at hl 0 rfl) ?_
  refine gf_X7_9 (v := .ref h1) S hK hP 0 rfl rfl dX7_copyFrom_6 ?_
  refine lv_iconst (v := 0) hx hb dX7_copyFrom_9 li_0 ?_
  refine lv_sipush (v := 200) hx hb dX7_copyFrom_10 ls_200 ?_
  refine cpyI (q0 := 3) (q1 := 1) (sp9 := 0) (dp9 := 0) (n9 := 200) S hl.1 tb699 hK hP hD hS rfl rfl (by decide) (by decide) (by decide) tn_0 tn_0 tn_200 (by decide) (by decide) (fun _ _ => rfl) (Nat.le_of_ble_eq_true rfl) (Nat.le_of_ble_eq_true rfl) dX7_copyFrom_13 (fun H locs hP hD hS => ?_)
  have hP : va_P D vwCl [(h0, .inr (7, [.ref h1, .int v0_segments])), (h1, .inl (cI, 200, .inl (va_cpy r3 r1 0 0 200))), (h2, .inr (7, [.ref h3, .int v2_segments])), (h3, .inl (cI, 200, .inl r3))] H := hP
  have hD : va_D A [(h0, .inr (7, [.ref h1, .int v0_segments])), (h1, .inl (cI, 200, .inl (va_cpy r3 r1 0 0 200))), (h2, .inr (7, [.ref h3, .int v2_segments])), (h3, .inl (cI, 200, .inl r3))] := hD
  obtain ⟨u1, e_u1⟩ : ∃ z, z = va_cpy r3 r1 0 0 200 := ⟨_, rfl⟩
  rw [← e_u1] at hP hD
  have h := bnd_eq e_u1.symm h
  refine lv_aload_n hx hb dX7_copyFrom_16 rfl (lv_at hl 0 rfl) ?_
  refine lv_aload_n hx hb dX7_copyFrom_17 rfl (lv_at hl 1 rfl) ?_
  refine gf_X7_15 (v := .int v2_segments) S hK hP 2 rfl rfl dX7_copyFrom_18 ?_
  refine pf_X7_15 (v := .int v2_segments) S hK hP hD hS 0 rfl (Nat.le_of_ble_eq_true rfl) rfl dX7_copyFrom_21 (fun H locs hP hD hS => ?_)
  have hP : va_P D vwCl [(h0, .inr (7, [.ref h1, .int v2_segments])), (h1, .inl (cI, 200, .inl u1)), (h2, .inr (7, [.ref h3, .int v2_segments])), (h3, .inl (cI, 200, .inl r3))] H := hP
  have hD : va_D A [(h0, .inr (7, [.ref h1, .int v2_segments])), (h1, .inl (cI, 200, .inl u1)), (h2, .inr (7, [.ref h3, .int v2_segments])), (h3, .inl (cI, 200, .inl r3))] := hD
  subst h
  exact wRv S hr hlk (hP.sub [0, 1, 2, 3] rfl) (hD.sub [0, 1, 2, 3] (by decide) rfl) hS dX7_copyFrom_24
abbrev rm_X7_put : Room := { frames := 0, cells := 0, slots := 0, locals := 0 }
theorem dX7_put_0 : decode cX7_put 0 = .ok (.aload_n 0, 1) := by decide +kernel
theorem dX7_put_1 : decode cX7_put 1 = .ok (.getfield 15, 3) := by decide +kernel
theorem dX7_put_4 : decode cX7_put 4 = .ok (.ifCond .lt 35, 3) := by decide +kernel
theorem dX7_put_7 : decode cX7_put 7 = .ok (.aload_n 0, 1) := by decide +kernel
theorem dX7_put_8 : decode cX7_put 8 = .ok (.getfield 15, 3) := by decide +kernel
theorem dX7_put_11 : decode cX7_put 11 = .ok (.aload_n 0, 1) := by decide +kernel
theorem dX7_put_12 : decode cX7_put 12 = .ok (.getfield 9, 3) := by decide +kernel
theorem dX7_put_15 : decode cX7_put 15 = .ok (.arraylength, 1) := by decide +kernel
theorem dX7_put_16 : decode cX7_put 16 = .ok (.if_icmp .ge 23, 3) := by decide +kernel
theorem dX7_put_19 : decode cX7_put 19 = .ok (.aload_n 0, 1) := by decide +kernel
theorem dX7_put_20 : decode cX7_put 20 = .ok (.getfield 9, 3) := by decide +kernel
theorem dX7_put_23 : decode cX7_put 23 = .ok (.aload_n 0, 1) := by decide +kernel
theorem dX7_put_24 : decode cX7_put 24 = .ok (.getfield 15, 3) := by decide +kernel
theorem dX7_put_27 : decode cX7_put 27 = .ok (.iload_n 1, 1) := by decide +kernel
theorem dX7_put_28 : decode cX7_put 28 = .ok (.iastore, 1) := by decide +kernel
theorem dX7_put_29 : decode cX7_put 29 = .ok (.aload_n 0, 1) := by decide +kernel
theorem dX7_put_30 : decode cX7_put 30 = .ok (.dup, 1) := by decide +kernel
theorem dX7_put_31 : decode cX7_put 31 = .ok (.getfield 15, 3) := by decide +kernel
theorem dX7_put_34 : decode cX7_put 34 = .ok (.iconst 1, 1) := by decide +kernel
theorem dX7_put_35 : decode cX7_put 35 = .ok (.iadd, 1) := by decide +kernel
theorem dX7_put_36 : decode cX7_put 36 = .ok (.putfield 15, 3) := by decide +kernel
theorem dX7_put_39 : decode cX7_put 39 = .ok (.return_, 1) := by decide +kernel
def f_X7_put (v0_segments : Int32) (r1 : Nat → Int32) (p0 : Int32) : Int32 × (Nat → Int32) :=
  if v0_segments < 0 then
    (v0_segments, r1)
  else
    if 200 ≤ v0_segments then
      (v0_segments, r1)
    else
      bnd (upd r1 v0_segments.toNatClampNeg p0) fun (u3 : Nat → Int32) =>
      (v0_segments + 1, u3)
set_option maxHeartbeats 4000000 in
set_option maxRecDepth 100000 in
theorem c_X7_put (l : Launch) (D : va_G) (cI cJ cC : ClassId) (h0 h1 : Nat) (v0_segments : Int32) (r1 : Nat → Int32) (sz : Nat) (p0 : Int32) (T : Int32 × (Nat → Int32)) (h : f_X7_put v0_segments r1 p0 = T) : Met l yX7_put (Cond.code yX7_put cX7_put 2 none :: TB) rm_X7_put (PreW D cI cJ cC [(h0, .inr (7, [.ref h1, .int v0_segments])), (h1, .inl (cI, 200, .inl r1))] sz [.ref h0, .int p0]) (QW none D [(h0, .inr (7, [.ref h1, .int T.1])), (h1, .inl (cI, 200, .inl T.2))] (va_A [(h0, .inr (7, [.ref h1, .int v0_segments])), (h1, .inl (cI, 200, .inl r1))] sz)) 0 0 (va_A [(h0, .inr (7, [.ref h1, .int v0_segments])), (h1, .inl (cI, 200, .inl r1))] sz) := by
  refine metW (own := RX7) (by decide) rfl (Nat.le_of_ble_eq_true rfl) ?_
  intro p e s m below meth c S hr hlk hP hK A hAe hD hA hS ls hl
  clear hAe
  have hx := S.1
  have hb := S.2.1
  have hl : lv_has ls 2 [(0, .ref h0), (1, .int p0)] := hl
  refine lv_aload_n hx hb dX7_put_0 rfl (lv_at hl 0 rfl) ?_
  refine gf_X7_15 (v := .int v0_segments) S hK hP 0 rfl rfl dX7_put_1 ?_
  refine lv_if_lt (tgt := 39) hx hb dX7_put_4 (by decide) (fun c1 => ?_) (fun c1 => ?_)
  · have h := iteP c1 h
    subst h
    exact wRv S hr hlk (hP.sub [0, 1] rfl) (hD.sub [0, 1] (by decide) rfl) hS dX7_put_39
  · have h := iteN c1 h
    refine lv_aload_n hx hb dX7_put_7 rfl (lv_at hl 0 rfl) ?_
    refine gf_X7_15 (v := .int v0_segments) S hK hP 0 rfl rfl dX7_put_8 ?_
    refine lv_aload_n hx hb dX7_put_11 rfl (lv_at hl 0 rfl) ?_
    refine gf_X7_9 (v := .ref h1) S hK hP 0 rfl rfl dX7_put_12 ?_
    refine va_alen hx hb hK hP 1 0 rfl rfl (v := 200) rfl dX7_put_15 ?_
    refine lv_icmp_ge (tgt := 39) hx hb dX7_put_16 (by decide) (fun c2 => ?_) (fun c2 => ?_)
    · have h := iteP c2 h
      subst h
      exact wRv S hr hlk (hP.sub [0, 1] rfl) (hD.sub [0, 1] (by decide) rfl) hS dX7_put_39
    · have h := iteN c2 h
      refine lv_aload_n hx hb dX7_put_19 rfl (lv_at hl 0 rfl) ?_
      refine gf_X7_9 (v := .ref h1) S hK hP 0 rfl rfl dX7_put_20 ?_
      refine lv_aload_n hx hb dX7_put_23 rfl (lv_at hl 0 rfl) ?_
      refine gf_X7_15 (v := .int v0_segments) S hK hP 0 rfl rfl dX7_put_24 ?_
      refine lv_iload_n hx hb dX7_put_27 rfl (lv_at hl 1 rfl) ?_
      refine astI (k := v0_segments.toNatClampNeg) (q0 := 1) S hK hP hD hS rfl (vpb (nlt32 c1) (nle32 c2) rfl) rfl dX7_put_28 (fun H locs hP hD hS => ?_)
      have hP : va_P D vwCl [(h0, .inr (7, [.ref h1, .int v0_segments])), (h1, .inl (cI, 200, .inl (upd r1 v0_segments.toNatClampNeg p0)))] H := hP
      have hD : va_D A [(h0, .inr (7, [.ref h1, .int v0_segments])), (h1, .inl (cI, 200, .inl (upd r1 v0_segments.toNatClampNeg p0)))] := hD
      obtain ⟨u3, e_u3⟩ : ∃ z, z = upd r1 v0_segments.toNatClampNeg p0 := ⟨_, rfl⟩
      rw [← e_u3] at hP hD
      have h := bnd_eq e_u3.symm h
      refine lv_aload_n hx hb dX7_put_29 rfl (lv_at hl 0 rfl) ?_
      refine lv_dup hx hb dX7_put_30 rfl ?_
      refine gf_X7_15 (v := .int v0_segments) S hK hP 0 rfl rfl dX7_put_31 ?_
      refine lv_iconst (v := 1) hx hb dX7_put_34 li_1 ?_
      refine lv_iadd hx hb dX7_put_35 ?_
      refine pf_X7_15 (v := .int (v0_segments + 1)) S hK hP hD hS 0 rfl (Nat.le_of_ble_eq_true rfl) rfl dX7_put_36 (fun H locs hP hD hS => ?_)
      have hP : va_P D vwCl [(h0, .inr (7, [.ref h1, .int (v0_segments + 1)])), (h1, .inl (cI, 200, .inl u3))] H := hP
      have hD : va_D A [(h0, .inr (7, [.ref h1, .int (v0_segments + 1)])), (h1, .inl (cI, 200, .inl u3))] := hD
      subst h
      exact wRv S hr hlk (hP.sub [0, 1] rfl) (hD.sub [0, 1] (by decide) rfl) hS dX7_put_39
abbrev rm_X7_rungAt : Room := { frames := 0, cells := 0, slots := 0, locals := 0 }
theorem dX7_rungAt_0 : decode cX7_rungAt 0 = .ok (.iload_n 1, 1) := by decide +kernel
theorem dX7_rungAt_1 : decode cX7_rungAt 1 = .ok (.ifCond .lt 24, 3) := by decide +kernel
theorem dX7_rungAt_4 : decode cX7_rungAt 4 = .ok (.iload_n 1, 1) := by decide +kernel
theorem dX7_rungAt_5 : decode cX7_rungAt 5 = .ok (.aload_n 0, 1) := by decide +kernel
theorem dX7_rungAt_6 : decode cX7_rungAt 6 = .ok (.getfield 15, 3) := by decide +kernel
theorem dX7_rungAt_9 : decode cX7_rungAt 9 = .ok (.if_icmp .ge 16, 3) := by decide +kernel
theorem dX7_rungAt_12 : decode cX7_rungAt 12 = .ok (.iload_n 1, 1) := by decide +kernel
theorem dX7_rungAt_13 : decode cX7_rungAt 13 = .ok (.aload_n 0, 1) := by decide +kernel
theorem dX7_rungAt_14 : decode cX7_rungAt 14 = .ok (.getfield 9, 3) := by decide +kernel
theorem dX7_rungAt_17 : decode cX7_rungAt 17 = .ok (.arraylength, 1) := by decide +kernel
theorem dX7_rungAt_18 : decode cX7_rungAt 18 = .ok (.if_icmp .ge 7, 3) := by decide +kernel
theorem dX7_rungAt_21 : decode cX7_rungAt 21 = .ok (.iconst 1, 1) := by decide +kernel
theorem dX7_rungAt_22 : decode cX7_rungAt 22 = .ok (.goto 4, 3) := by decide +kernel
theorem dX7_rungAt_25 : decode cX7_rungAt 25 = .ok (.iconst 0, 1) := by decide +kernel
theorem dX7_rungAt_26 : decode cX7_rungAt 26 = .ok (.istore_n 2, 1) := by decide +kernel
theorem dX7_rungAt_27 : decode cX7_rungAt 27 = .ok (.iload_n 2, 1) := by decide +kernel
theorem dX7_rungAt_28 : decode cX7_rungAt 28 = .ok (.ifCond .eq 12, 3) := by decide +kernel
theorem dX7_rungAt_31 : decode cX7_rungAt 31 = .ok (.aload_n 0, 1) := by decide +kernel
theorem dX7_rungAt_32 : decode cX7_rungAt 32 = .ok (.getfield 9, 3) := by decide +kernel
theorem dX7_rungAt_35 : decode cX7_rungAt 35 = .ok (.iload_n 1, 1) := by decide +kernel
theorem dX7_rungAt_36 : decode cX7_rungAt 36 = .ok (.iaload, 1) := by decide +kernel
theorem dX7_rungAt_37 : decode cX7_rungAt 37 = .ok (.goto 4, 3) := by decide +kernel
theorem dX7_rungAt_40 : decode cX7_rungAt 40 = .ok (.iconst (-1), 1) := by decide +kernel
theorem dX7_rungAt_41 : decode cX7_rungAt 41 = .ok (.ireturn, 1) := by decide +kernel
def f_X7_rungAt (v0_segments : Int32) (r1 : Nat → Int32) (p0 : Int32) : Int32 :=
  if p0 < 0 then
    (-1)
  else
    if v0_segments ≤ p0 then
      (-1)
    else
      if 200 ≤ p0 then
        (-1)
      else
        r1 p0.toNatClampNeg
set_option maxHeartbeats 4000000 in
set_option maxRecDepth 100000 in
theorem c_X7_rungAt (l : Launch) (D : va_G) (cI cJ cC : ClassId) (h0 h1 : Nat) (v0_segments : Int32) (r1 : Nat → Int32) (p0 : Int32) (t0 : Int32) (h : f_X7_rungAt v0_segments r1 p0 = t0) : Met l yX7_rungAt (Cond.code yX7_rungAt cX7_rungAt 3 (some .int) :: TB) rm_X7_rungAt (PreR D cI cJ cC [(h0, .inr (7, [.ref h1, .int v0_segments])), (h1, .inl (cI, 200, .inl r1))] [.ref h0, .int p0]) (QR (some (.int t0))) 0 0 free0 := by
  refine metR (own := RX7) (by decide) rfl (Nat.le_of_ble_eq_true rfl) ?_
  intro p e s m below meth c S hr hlk hP hK ls hl
  have hx := S.1
  have hb := S.2.1
  have hl : lv_has ls 3 [(0, .ref h0), (1, .int p0)] := hl
  refine lv_iload_n hx hb dX7_rungAt_0 rfl (lv_at hl 1 rfl) ?_
  refine lv_if_lt (tgt := 25) hx hb dX7_rungAt_1 (by decide) (fun c1 => ?_) (fun c1 => ?_)
  · have h := iteP c1 h
    refine lv_iconst (v := 0) hx hb dX7_rungAt_25 li_0 ?_
    refine lv_istore_n (lv' := [(2, .int 0), (0, .ref h0), (1, .int p0)]) hx hb dX7_rungAt_26 rfl hl (by decide) rfl (fun ls hl => ?_)
    refine lv_iload_n hx hb dX7_rungAt_27 rfl (lv_at hl 0 rfl) ?_
    refine lv_if_eq (tgt := 40) hx hb dX7_rungAt_28 (by decide) (fun _ => ?_) (fun c9 => absurd (by decide) c9)
    refine lv_iconst (v := (-1)) hx hb dX7_rungAt_40 li_m1 ?_
    subst h
    exact rRi S hr hlk dX7_rungAt_41
  · have h := iteN c1 h
    refine lv_iload_n hx hb dX7_rungAt_4 rfl (lv_at hl 1 rfl) ?_
    refine lv_aload_n hx hb dX7_rungAt_5 rfl (lv_at hl 0 rfl) ?_
    refine gf_X7_15 (v := .int v0_segments) S hK hP 0 rfl rfl dX7_rungAt_6 ?_
    refine lv_icmp_ge (tgt := 25) hx hb dX7_rungAt_9 (by decide) (fun c2 => ?_) (fun c2 => ?_)
    · have h := iteP c2 h
      refine lv_iconst (v := 0) hx hb dX7_rungAt_25 li_0 ?_
      refine lv_istore_n (lv' := [(2, .int 0), (0, .ref h0), (1, .int p0)]) hx hb dX7_rungAt_26 rfl hl (by decide) rfl (fun ls hl => ?_)
      refine lv_iload_n hx hb dX7_rungAt_27 rfl (lv_at hl 0 rfl) ?_
      refine lv_if_eq (tgt := 40) hx hb dX7_rungAt_28 (by decide) (fun _ => ?_) (fun c9 => absurd (by decide) c9)
      refine lv_iconst (v := (-1)) hx hb dX7_rungAt_40 li_m1 ?_
      subst h
      exact rRi S hr hlk dX7_rungAt_41
    · have h := iteN c2 h
      refine lv_iload_n hx hb dX7_rungAt_12 rfl (lv_at hl 1 rfl) ?_
      refine lv_aload_n hx hb dX7_rungAt_13 rfl (lv_at hl 0 rfl) ?_
      refine gf_X7_9 (v := .ref h1) S hK hP 0 rfl rfl dX7_rungAt_14 ?_
      refine va_alen hx hb hK hP 1 0 rfl rfl (v := 200) rfl dX7_rungAt_17 ?_
      refine lv_icmp_ge (tgt := 25) hx hb dX7_rungAt_18 (by decide) (fun c3 => ?_) (fun c3 => ?_)
      · have h := iteP c3 h
        refine lv_iconst (v := 0) hx hb dX7_rungAt_25 li_0 ?_
        refine lv_istore_n (lv' := [(2, .int 0), (0, .ref h0), (1, .int p0)]) hx hb dX7_rungAt_26 rfl hl (by decide) rfl (fun ls hl => ?_)
        refine lv_iload_n hx hb dX7_rungAt_27 rfl (lv_at hl 0 rfl) ?_
        refine lv_if_eq (tgt := 40) hx hb dX7_rungAt_28 (by decide) (fun _ => ?_) (fun c9 => absurd (by decide) c9)
        refine lv_iconst (v := (-1)) hx hb dX7_rungAt_40 li_m1 ?_
        subst h
        exact rRi S hr hlk dX7_rungAt_41
      · have h := iteN c3 h
        refine lv_iconst (v := 1) hx hb dX7_rungAt_21 li_1 ?_
        refine lv_goto (tgt := 26) hx hb dX7_rungAt_22 (by decide) ?_
        refine lv_istore_n (lv' := [(2, .int 1), (0, .ref h0), (1, .int p0)]) hx hb dX7_rungAt_26 rfl hl (by decide) rfl (fun ls hl => ?_)
        refine lv_iload_n hx hb dX7_rungAt_27 rfl (lv_at hl 0 rfl) ?_
        refine lv_if_eq (tgt := 40) hx hb dX7_rungAt_28 (by decide) (fun c9 => absurd c9 (by decide)) (fun _ => ?_)
        refine lv_aload_n hx hb dX7_rungAt_31 rfl (lv_at hl 1 rfl) ?_
        refine gf_X7_9 (v := .ref h1) S hK hP 0 rfl rfl dX7_rungAt_32 ?_
        refine lv_iload_n hx hb dX7_rungAt_35 rfl (lv_at hl 2 rfl) ?_
        refine aldI (k := p0.toNatClampNeg) (q0 := 1) S hK hP rfl (vpb (nlt32 c1) (nle32 c3) rfl) rfl dX7_rungAt_36 ?_
        refine lv_goto (tgt := 41) hx hb dX7_rungAt_37 (by decide) ?_
        subst h
        exact rRi S hr hlk dX7_rungAt_41
abbrev rm_X7_endsInSwitch : Room := { frames := 1, cells := 0, slots := 0, locals := 22 }
theorem dX7_endsInSwitch_0 : decode cX7_endsInSwitch 0 = .ok (.aload_n 0, 1) := by decide +kernel
theorem dX7_endsInSwitch_1 : decode cX7_endsInSwitch 1 = .ok (.getfield 15, 3) := by decide +kernel
theorem dX7_endsInSwitch_4 : decode cX7_endsInSwitch 4 = .ok (.iconst 2, 1) := by decide +kernel
theorem dX7_endsInSwitch_5 : decode cX7_endsInSwitch 5 = .ok (.if_icmp .lt 30, 3) := by decide +kernel
theorem dX7_endsInSwitch_8 : decode cX7_endsInSwitch 8 = .ok (.aload_n 0, 1) := by decide +kernel
theorem dX7_endsInSwitch_9 : decode cX7_endsInSwitch 9 = .ok (.aload_n 0, 1) := by decide +kernel
theorem dX7_endsInSwitch_10 : decode cX7_endsInSwitch 10 = .ok (.getfield 15, 3) := by decide +kernel
theorem dX7_endsInSwitch_13 : decode cX7_endsInSwitch 13 = .ok (.iconst 1, 1) := by decide +kernel
theorem dX7_endsInSwitch_14 : decode cX7_endsInSwitch 14 = .ok (.isub, 1) := by decide +kernel
theorem dX7_endsInSwitch_15 : decode cX7_endsInSwitch 15 = .ok (.invokevirtual 25, 3) := by decide +kernel
theorem dX7_endsInSwitch_18 : decode cX7_endsInSwitch 18 = .ok (.aload_n 0, 1) := by decide +kernel
theorem dX7_endsInSwitch_19 : decode cX7_endsInSwitch 19 = .ok (.aload_n 0, 1) := by decide +kernel
theorem dX7_endsInSwitch_20 : decode cX7_endsInSwitch 20 = .ok (.getfield 15, 3) := by decide +kernel
theorem dX7_endsInSwitch_23 : decode cX7_endsInSwitch 23 = .ok (.iconst 2, 1) := by decide +kernel
theorem dX7_endsInSwitch_24 : decode cX7_endsInSwitch 24 = .ok (.isub, 1) := by decide +kernel
theorem dX7_endsInSwitch_25 : decode cX7_endsInSwitch 25 = .ok (.invokevirtual 25, 3) := by decide +kernel
theorem dX7_endsInSwitch_28 : decode cX7_endsInSwitch 28 = .ok (.if_icmp .eq 7, 3) := by decide +kernel
theorem dX7_endsInSwitch_31 : decode cX7_endsInSwitch 31 = .ok (.iconst 1, 1) := by decide +kernel
theorem dX7_endsInSwitch_32 : decode cX7_endsInSwitch 32 = .ok (.goto 4, 3) := by decide +kernel
theorem dX7_endsInSwitch_35 : decode cX7_endsInSwitch 35 = .ok (.iconst 0, 1) := by decide +kernel
theorem dX7_endsInSwitch_36 : decode cX7_endsInSwitch 36 = .ok (.ireturn, 1) := by decide +kernel
theorem cw_X7_25 {R : Room} {s : State} {args : Array Value} (hts : ∀ w ∈ TB, w.before args s = true) (hR : rm_X7_rungAt.frames + 1 ≤ R.frames ∧ 8 + (3 + 11) + rm_X7_rungAt.locals ≤ R.locals) : CallW R s args RX7 RX7 25 yX7_rungAt cX7_rungAt 3 (some .int) (Cond.code yX7_rungAt cX7_rungAt 3 (some .int) :: TB) rm_X7_rungAt 0 0 1 := cwV 1 hts (gV tb604 tb521 tb522 tb26 tb523) rfl rfl rfl ⟨rfl, by decide, by decide, by decide +kernel⟩ hR
def f_X7_endsInSwitch (v0_segments : Int32) (r1 : Nat → Int32) : Int32 :=
  if v0_segments < 2 then
    0
  else
    if (f_X7_rungAt v0_segments r1 (v0_segments - 1)) = (f_X7_rungAt v0_segments r1 (v0_segments - 2)) then
      0
    else
      1
set_option maxHeartbeats 4000000 in
set_option maxRecDepth 100000 in
theorem c_X7_endsInSwitch (l : Launch) (D : va_G) (cI cJ cC : ClassId) (h0 h1 : Nat) (v0_segments : Int32) (r1 : Nat → Int32)  (t0 : Int32) (h : f_X7_endsInSwitch v0_segments r1 = t0) : Met l yX7_endsInSwitch (Cond.code yX7_endsInSwitch cX7_endsInSwitch 1 (some .boolean) :: TB) rm_X7_endsInSwitch (PreR D cI cJ cC [(h0, .inr (7, [.ref h1, .int v0_segments])), (h1, .inl (cI, 200, .inl r1))] [.ref h0]) (QR (some (.int t0))) 0 0 free0 := by
  refine metR (own := RX7) (by decide) rfl (Nat.le_of_ble_eq_true rfl) ?_
  intro p e s m below meth c S hr hlk hP hK ls hl
  have hx := S.1
  have hb := S.2.1
  have hl : lv_has ls 1 [(0, .ref h0)] := hl
  refine lv_aload_n hx hb dX7_endsInSwitch_0 rfl (lv_at hl 0 rfl) ?_
  refine gf_X7_15 (v := .int v0_segments) S hK hP 0 rfl rfl dX7_endsInSwitch_1 ?_
  refine lv_iconst (v := 2) hx hb dX7_endsInSwitch_4 li_2 ?_
  refine lv_icmp_lt (tgt := 35) hx hb dX7_endsInSwitch_5 (by decide) (fun c1 => ?_) (fun c1 => ?_)
  · have h := iteP c1 h
    refine lv_iconst (v := 0) hx hb dX7_endsInSwitch_35 li_0 ?_
    subst h
    exact rRz S hr hlk (by decide) dX7_endsInSwitch_36
  · have h := iteN c1 h
    refine lv_aload_n hx hb dX7_endsInSwitch_8 rfl (lv_at hl 0 rfl) ?_
    refine lv_aload_n hx hb dX7_endsInSwitch_9 rfl (lv_at hl 0 rfl) ?_
    refine gf_X7_15 (v := .int v0_segments) S hK hP 0 rfl rfl dX7_endsInSwitch_10 ?_
    refine lv_iconst (v := 1) hx hb dX7_endsInSwitch_13 li_1 ?_
    refine lv_isub hx hb dX7_endsInSwitch_14 ?_
    refine rdV (pc1 := 18) (rest := []) (st1 := [.int (f_X7_rungAt v0_segments r1 (v0_segments - 1))]) S (c_X7_rungAt l D cI cJ cC h0 h1 v0_segments r1 (v0_segments - 1) _ rfl) (cw_X7_25 S.2.2.2.2 ⟨Nat.le_of_ble_eq_true rfl, Nat.le_of_ble_eq_true rfl⟩) hK (hP.sub [0, 1] rfl) rfl rfl rfl rfl hl.1 rfl (Nat.le_of_ble_eq_true rfl) ⟨Nat.zero_le _, Nat.zero_le _⟩ rfl rfl dX7_endsInSwitch_15 ?_
    refine lv_aload_n hx hb dX7_endsInSwitch_18 rfl (lv_at hl 0 rfl) ?_
    refine lv_aload_n hx hb dX7_endsInSwitch_19 rfl (lv_at hl 0 rfl) ?_
    refine gf_X7_15 (v := .int v0_segments) S hK hP 0 rfl rfl dX7_endsInSwitch_20 ?_
    refine lv_iconst (v := 2) hx hb dX7_endsInSwitch_23 li_2 ?_
    refine lv_isub hx hb dX7_endsInSwitch_24 ?_
    refine rdV (pc1 := 28) (rest := [.int (f_X7_rungAt v0_segments r1 (v0_segments - 1))]) (st1 := [.int (f_X7_rungAt v0_segments r1 (v0_segments - 2)), .int (f_X7_rungAt v0_segments r1 (v0_segments - 1))]) S (c_X7_rungAt l D cI cJ cC h0 h1 v0_segments r1 (v0_segments - 2) _ rfl) (cw_X7_25 S.2.2.2.2 ⟨Nat.le_of_ble_eq_true rfl, Nat.le_of_ble_eq_true rfl⟩) hK (hP.sub [0, 1] rfl) rfl rfl rfl rfl hl.1 rfl (Nat.le_of_ble_eq_true rfl) ⟨Nat.zero_le _, Nat.zero_le _⟩ rfl rfl dX7_endsInSwitch_25 ?_
    refine lv_icmp_eq (tgt := 35) hx hb dX7_endsInSwitch_28 (by decide) (fun c2 => ?_) (fun c2 => ?_)
    · have h := iteP c2 h
      refine lv_iconst (v := 0) hx hb dX7_endsInSwitch_35 li_0 ?_
      subst h
      exact rRz S hr hlk (by decide) dX7_endsInSwitch_36
    · have h := iteN c2 h
      refine lv_iconst (v := 1) hx hb dX7_endsInSwitch_31 li_1 ?_
      refine lv_goto (tgt := 36) hx hb dX7_endsInSwitch_32 (by decide) ?_
      subst h
      exact rRz S hr hlk (by decide) dX7_endsInSwitch_36
