abbrev rm_X10_start : Room := { frames := 1, cells := 0, slots := 0, locals := 21 }
theorem dX10_start_0 : decode cX10_start 0 = .ok (.aload_n 0, 1) := by decide +kernel
theorem dX10_start_1 : decode cX10_start 1 = .ok (.iconst 0, 1) := by decide +kernel
theorem dX10_start_2 : decode cX10_start 2 = .ok (.putfield 33, 3) := by decide +kernel
theorem dX10_start_5 : decode cX10_start 5 = .ok (.aload_n 0, 1) := by decide +kernel
theorem dX10_start_6 : decode cX10_start 6 = .ok (.getfield 53, 3) := by decide +kernel
theorem dX10_start_9 : decode cX10_start 9 = .ok (.ifCond .ne 10, 3) := by decide +kernel
theorem dX10_start_12 : decode cX10_start 12 = .ok (.aload_n 0, 1) := by decide +kernel
theorem dX10_start_13 : decode cX10_start 13 = .ok (.invokevirtual 164, 3) := by decide +kernel
theorem dX10_start_16 : decode cX10_start 16 = .ok (.ifCond .eq 9, 3) := by decide +kernel
theorem dX10_start_19 : decode cX10_start 19 = .ok (.aload_n 0, 1) := by decide +kernel
theorem dX10_start_20 : decode cX10_start 20 = .ok (.iconst 1, 1) := by decide +kernel
theorem dX10_start_21 : decode cX10_start 21 = .ok (.invokevirtual 43, 3) := by decide +kernel
theorem dX10_start_24 : decode cX10_start 24 = .ok (.ireturn, 1) := by decide +kernel
theorem dX10_start_25 : decode cX10_start 25 = .ok (.aload_n 0, 1) := by decide +kernel
theorem dX10_start_26 : decode cX10_start 26 = .ok (.iconst 1, 1) := by decide +kernel
theorem dX10_start_27 : decode cX10_start 27 = .ok (.putfield 53, 3) := by decide +kernel
theorem dX10_start_30 : decode cX10_start 30 = .ok (.aload_n 0, 1) := by decide +kernel
theorem dX10_start_31 : decode cX10_start 31 = .ok (.getfield 25, 3) := by decide +kernel
theorem dX10_start_34 : decode cX10_start 34 = .ok (.invokestatic 168, 3) := by decide +kernel
theorem dX10_start_37 : decode cX10_start 37 = .ok (.aload_n 0, 1) := by decide +kernel
theorem dX10_start_38 : decode cX10_start 38 = .ok (.getfield 7, 3) := by decide +kernel
theorem dX10_start_41 : decode cX10_start 41 = .ok (.iconst 1, 1) := by decide +kernel
theorem dX10_start_42 : decode cX10_start 42 = .ok (.iaload, 1) := by decide +kernel
theorem dX10_start_43 : decode cX10_start 43 = .ok (.ireturn, 1) := by decide +kernel
theorem cw_X10_164 {R : Room} {s : State} {args : Array Value} (hts : ∀ w ∈ TB, w.before args s = true) (hR : rm_X10_cannotStart.frames + 1 ≤ R.frames ∧ 8 + (1 + 11) + rm_X10_cannotStart.locals ≤ R.locals) : CallW R s args RX10 RX10 164 yX10_cannotStart cX10_cannotStart 1 (some .boolean) (Cond.code yX10_cannotStart cX10_cannotStart 1 (some .boolean) :: TB) rm_X10_cannotStart 0 0 0 := cwV 0 hts (gV tb1054 tb1055 tb24 tb57 tb1056) rfl rfl rfl ⟨rfl, by decide, by decide, by decide +kernel⟩ hR
theorem pf_X10_53 {p : Program} {l : Launch} {e : Env} {R : Room} {s : State} {m : MethodId} {args : Array Value} {below : List Frame} {meth : Method} {c : Code} {H H0 : Heap} {locs : List Loc} {cells slots : Nat} {Q : State → Prop} {cc : ByteArray} {pc nL : Nat} {ls : Array Slot} {rest : List Value} {D : va_G} {ws : va_W} {tys : List (ClassId × FieldType)} {A : Nat → Prop} {v : Value} (S : CallFix p m c cc nL s args TB RX10) (hK : va_K D vwCl tys s) (hP : va_P D vwCl ws H) (hD : va_D A ws) (hS : va_S A H0 H locs) (q0 : Nat) {a : Nat} {fs : List Value} (he : ws[q0]? = some (a, .inr (10, fs))) (hle : 8 < fs.length) (hn : narrow .boolean v = v) (hfit : fits .boolean v = true) (hdg : decode cc pc = .ok (.putfield 53, 3))
    (kk : ∀ (H1 : Heap) (locs1 : List Loc), va_P D vwCl (ws.set q0 (a, .inr (10, fs.set 8 v))) H1 → va_D A (ws.set q0 (a, .inr (10, fs.set 8 v))) → va_S A H0 H1 locs1 → W p l e R s m args below meth c H1 locs1 cells slots Q (F0 m (pc + 3) ls rest)) : W p l e R s m args below meth c H locs cells slots Q (F0 m pc ls (v :: .ref a :: rest)) :=
  va_put (D := D) (ci := 10) (ty := .boolean) (C := RX10) (T := TX10) (N := 10) S.1 S.2.1 S.2.2.2.2 iwX10 tyX10 tyX10_ok nmX10 S.2.2.2.1 hK hP hD hS q0 he rfl 8 (by decide) (S.2.2.2.2 _ tb969) (fun _ h9 => h9) rfl (by decide +kernel) hn hfit hle hdg kk
theorem gf_X10_25 {p : Program} {l : Launch} {e : Env} {R : Room} {s : State} {m : MethodId} {args : Array Value} {below : List Frame} {meth : Method} {c : Code} {H : Heap} {locs : List Loc} {cells slots : Nat} {Q : State → Prop} {cc : ByteArray} {pc nL : Nat} {ls : Array Slot} {rest : List Value} {D : va_G} {ws : va_W} {tys : List (ClassId × FieldType)} (S : CallFix p m c cc nL s args TB RX10) (hK : va_K D vwCl tys s) (hP : va_P D vwCl ws H) (q0 : Nat) {a : Nat} {fs : List Value} (he : ws[q0]? = some (a, .inr (10, fs))) {v : Value} (hv : fs[6]? = some v) (hdg : decode cc pc = .ok (.getfield 25, 3))
    (kk : W p l e R s m args below meth c H locs cells slots Q (F0 m (pc + 3) ls (v :: rest))) : W p l e R s m args below meth c H locs cells slots Q (F0 m pc ls (.ref a :: rest)) :=
  va_get (D := D) (ci := 10) (C := RX10) (T := TX10) (N := 10) S.1 S.2.1 S.2.2.2.2 iwX10 S.2.2.2.1 hK hP q0 he rfl 6 (by decide) (S.2.2.2.2 _ tb967) (fun _ h9 => h9) hv hdg kk
theorem cw_X10_168 {R : Room} {s : State} {args : Array Value} (hts : ∀ w ∈ TB, w.before args s = true) (hR : rm_X10_clears.frames + 1 ≤ R.frames ∧ 8 + (2 + 11) + rm_X10_clears.locals ≤ R.locals) : CallB R s args RX10 168 yX10_clears cX10_clears 2 none (Cond.code yX10_clears cX10_clears 2 none :: TB) rm_X10_clears 0 0 1 ∧ (Cond.static yX10_clears).before args s = true := cwS 1 hts (gS tb1057 tb1058 tb57 tb1059) rfl rfl rfl ⟨rfl, by decide, by decide, by decide +kernel⟩ hR
def f_X10_start (v0_phases v0_has : Int32) (r1 : Nat → Int32) (r2 : Nat → Int64) (r3 : Nat → Int32) : Int32 × Int32 × Int32 × (Nat → Int64) :=
  if v0_has = 0 then
    if (f_X10_cannotStart v0_phases r1) = 0 then
      bnd (f_X10_clears r2) fun (u5 : Nat → Int64) =>
      (r3 1, 1, 0, u5)
    else
      bnd2 (f_X10_fails 1) fun (y6 : Int32) (y7 : Int32) =>
      (y6, v0_has, y7, r2)
  else
    bnd2 (f_X10_fails 1) fun (y2 : Int32) (y3 : Int32) =>
    (y2, v0_has, y3, r2)
set_option maxHeartbeats 4000000 in
set_option maxRecDepth 100000 in
theorem c_X10_start (l : Launch) (D : va_G) (cI cJ cC : ClassId) (h0 h1 h2 h3 kthis_rates kthis_lengths kthis_flows kthis_trial : Nat) (v0_phases v0_has v0_thrown : Int32) (r1 : Nat → Int32) (r2 : Nat → Int64) (r3 : Nat → Int32) (sz : Nat)  (T : Int32 × Int32 × Int32 × (Nat → Int64)) (h : f_X10_start v0_phases v0_has r1 r2 r3 = T) : Met l yX10_start (Cond.code yX10_start cX10_start 1 (some .int) :: TB) rm_X10_start (PreW D cI cJ cC [(h0, .inr (10, [.ref h3, .ref kthis_rates, .ref h1, .ref kthis_lengths, .ref kthis_flows, .int v0_phases, .ref h2, .ref kthis_trial, .int v0_has, .int v0_thrown])), (h1, .inl (cI, 2, .inl r1)), (h2, .inl (cJ, 760, .inr (.inl r2))), (h3, .inl (cI, 15, .inl r3))] sz [.ref h0]) (QW (some (.int T.1)) D [(h0, .inr (10, [.ref h3, .ref kthis_rates, .ref h1, .ref kthis_lengths, .ref kthis_flows, .int v0_phases, .ref h2, .ref kthis_trial, .int T.2.1, .int T.2.2.1])), (h1, .inl (cI, 2, .inl r1)), (h2, .inl (cJ, 760, .inr (.inl T.2.2.2))), (h3, .inl (cI, 15, .inl r3))] (va_A [(h0, .inr (10, [.ref h3, .ref kthis_rates, .ref h1, .ref kthis_lengths, .ref kthis_flows, .int v0_phases, .ref h2, .ref kthis_trial, .int v0_has, .int v0_thrown])), (h1, .inl (cI, 2, .inl r1)), (h2, .inl (cJ, 760, .inr (.inl r2))), (h3, .inl (cI, 15, .inl r3))] sz)) 0 0 (va_A [(h0, .inr (10, [.ref h3, .ref kthis_rates, .ref h1, .ref kthis_lengths, .ref kthis_flows, .int v0_phases, .ref h2, .ref kthis_trial, .int v0_has, .int v0_thrown])), (h1, .inl (cI, 2, .inl r1)), (h2, .inl (cJ, 760, .inr (.inl r2))), (h3, .inl (cI, 15, .inl r3))] sz) := by
  refine metW (own := RX10) (by decide) rfl (Nat.le_of_ble_eq_true rfl) ?_
  intro p e s m below meth c S hr hlk hP hK A hAe hD hA hS ls hl
  clear hAe
  have hx := S.1
  have hb := S.2.1
  have hl : lv_has ls 1 [(0, .ref h0)] := hl
  refine lv_aload_n hx hb dX10_start_0 rfl (lv_at hl 0 rfl) ?_
  refine lv_iconst (v := 0) hx hb dX10_start_1 li_0 ?_
  refine pf_X10_33 (v := .int 0) S hK hP hD hS 0 rfl (Nat.le_of_ble_eq_true rfl) rfl dX10_start_2 (fun H locs hP hD hS => ?_)
  have hP : va_P D vwCl [(h0, .inr (10, [.ref h3, .ref kthis_rates, .ref h1, .ref kthis_lengths, .ref kthis_flows, .int v0_phases, .ref h2, .ref kthis_trial, .int v0_has, .int 0])), (h1, .inl (cI, 2, .inl r1)), (h2, .inl (cJ, 760, .inr (.inl r2))), (h3, .inl (cI, 15, .inl r3))] H := hP
  have hD : va_D A [(h0, .inr (10, [.ref h3, .ref kthis_rates, .ref h1, .ref kthis_lengths, .ref kthis_flows, .int v0_phases, .ref h2, .ref kthis_trial, .int v0_has, .int 0])), (h1, .inl (cI, 2, .inl r1)), (h2, .inl (cJ, 760, .inr (.inl r2))), (h3, .inl (cI, 15, .inl r3))] := hD
  refine lv_aload_n hx hb dX10_start_5 rfl (lv_at hl 0 rfl) ?_
  refine gf_X10_53 (v := .int v0_has) S hK hP 0 rfl rfl dX10_start_6 ?_
  refine lv_if_ne (tgt := 19) hx hb dX10_start_9 (by decide) (fun c1 => ?_) (fun c1 => ?_)
  · have h := iteN c1 h
    refine lv_aload_n hx hb dX10_start_19 rfl (lv_at hl 0 rfl) ?_
    refine lv_iconst (v := 1) hx hb dX10_start_20 li_1 ?_
    obtain ⟨y2, y3, e_y2⟩ : ∃ a0 a1, f_X10_fails 1 = (a0, a1) := ⟨_, _, rfl⟩
    have h := bnd2_eq e_y2 h
    refine wrV (pc1 := 24) (rest := []) (st1 := [.int y2]) (wr := [(h1, .inl (cI, 2, .inl r1)), (h2, .inl (cJ, 760, .inr (.inl r2))), (h3, .inl (cI, 15, .inl r3))]) S (c_X10_fails l D cI cJ cC h0 h3 kthis_rates h1 kthis_lengths kthis_flows h2 kthis_trial v0_phases v0_has 0 H.size 1 (y2, y3) e_y2) (cw_X10_43 S.2.2.2.2 ⟨Nat.le_of_ble_eq_true rfl, Nat.le_of_ble_eq_true rfl⟩) hK hP hD hS hA [0] [1, 2, 3] rfl rfl rfl (by decide) (by decide) (by decide) rfl rfl rfl rfl hl.1 rfl (Nat.le_of_ble_eq_true rfl) ⟨Nat.zero_le _, Nat.zero_le _⟩ rfl rfl dX10_start_21 (fun H locs hP hD hS => ?_)
    have hP : va_P D vwCl [(h1, .inl (cI, 2, .inl r1)), (h2, .inl (cJ, 760, .inr (.inl r2))), (h3, .inl (cI, 15, .inl r3)), (h0, .inr (10, [.ref h3, .ref kthis_rates, .ref h1, .ref kthis_lengths, .ref kthis_flows, .int v0_phases, .ref h2, .ref kthis_trial, .int v0_has, .int y3]))] H := hP
    have hD : va_D A [(h1, .inl (cI, 2, .inl r1)), (h2, .inl (cJ, 760, .inr (.inl r2))), (h3, .inl (cI, 15, .inl r3)), (h0, .inr (10, [.ref h3, .ref kthis_rates, .ref h1, .ref kthis_lengths, .ref kthis_flows, .int v0_phases, .ref h2, .ref kthis_trial, .int v0_has, .int y3]))] := hD
    subst h
    exact wRi S hr hlk (hP.sub [3, 0, 1, 2] rfl) (hD.sub [3, 0, 1, 2] (by decide) rfl) hS dX10_start_24
  · have h := iteP c1 h
    refine lv_aload_n hx hb dX10_start_12 rfl (lv_at hl 0 rfl) ?_
    refine rdV (pc1 := 16) (rest := []) (st1 := [.int (f_X10_cannotStart v0_phases r1)]) S (c_X10_cannotStart l D cI cJ cC h0 h1 h3 kthis_rates kthis_lengths kthis_flows h2 kthis_trial v0_phases v0_has 0 r1  _ rfl) (cw_X10_164 S.2.2.2.2 ⟨Nat.le_of_ble_eq_true rfl, Nat.le_of_ble_eq_true rfl⟩) hK (hP.sub [0, 1] rfl) rfl rfl rfl rfl hl.1 rfl (Nat.le_of_ble_eq_true rfl) ⟨Nat.zero_le _, Nat.zero_le _⟩ rfl rfl dX10_start_13 ?_
    refine lv_if_eq (tgt := 25) hx hb dX10_start_16 (by decide) (fun c4 => ?_) (fun c4 => ?_)
    · have h := iteP c4 h
      refine lv_aload_n hx hb dX10_start_25 rfl (lv_at hl 0 rfl) ?_
      refine lv_iconst (v := 1) hx hb dX10_start_26 li_1 ?_
      refine pf_X10_53 (v := .int 1) S hK hP hD hS 0 rfl (Nat.le_of_ble_eq_true rfl) (by decide) (by decide) dX10_start_27 (fun H locs hP hD hS => ?_)
      have hP : va_P D vwCl [(h0, .inr (10, [.ref h3, .ref kthis_rates, .ref h1, .ref kthis_lengths, .ref kthis_flows, .int v0_phases, .ref h2, .ref kthis_trial, .int 1, .int 0])), (h1, .inl (cI, 2, .inl r1)), (h2, .inl (cJ, 760, .inr (.inl r2))), (h3, .inl (cI, 15, .inl r3))] H := hP
      have hD : va_D A [(h0, .inr (10, [.ref h3, .ref kthis_rates, .ref h1, .ref kthis_lengths, .ref kthis_flows, .int v0_phases, .ref h2, .ref kthis_trial, .int 1, .int 0])), (h1, .inl (cI, 2, .inl r1)), (h2, .inl (cJ, 760, .inr (.inl r2))), (h3, .inl (cI, 15, .inl r3))] := hD
      refine lv_aload_n hx hb dX10_start_30 rfl (lv_at hl 0 rfl) ?_
      refine gf_X10_25 (v := .ref h2) S hK hP 0 rfl rfl dX10_start_31 ?_
      obtain ⟨u5, e_u5⟩ : ∃ a0, f_X10_clears r2 = a0 := ⟨_, rfl⟩
      have h := bnd_eq e_u5 h
      refine wrS (pc1 := 37) (rest := []) (st1 := []) (wr := [(h0, .inr (10, [.ref h3, .ref kthis_rates, .ref h1, .ref kthis_lengths, .ref kthis_flows, .int v0_phases, .ref h2, .ref kthis_trial, .int 1, .int 0])), (h1, .inl (cI, 2, .inl r1)), (h3, .inl (cI, 15, .inl r3))]) S (c_X10_clears l D cI cJ cC h2 r2 H.size  u5 e_u5) (cw_X10_168 S.2.2.2.2 ⟨Nat.le_of_ble_eq_true rfl, Nat.le_of_ble_eq_true rfl⟩) hK hP hD hS hA [2] [0, 1, 3] rfl rfl rfl (by decide) (by decide) (by decide) rfl hl.1 rfl (Nat.le_of_ble_eq_true rfl) ⟨Nat.zero_le _, Nat.zero_le _⟩ rfl rfl dX10_start_34 (fun H locs hP hD hS => ?_)
      have hP : va_P D vwCl [(h0, .inr (10, [.ref h3, .ref kthis_rates, .ref h1, .ref kthis_lengths, .ref kthis_flows, .int v0_phases, .ref h2, .ref kthis_trial, .int 1, .int 0])), (h1, .inl (cI, 2, .inl r1)), (h3, .inl (cI, 15, .inl r3)), (h2, .inl (cJ, 760, .inr (.inl u5)))] H := hP
      have hD : va_D A [(h0, .inr (10, [.ref h3, .ref kthis_rates, .ref h1, .ref kthis_lengths, .ref kthis_flows, .int v0_phases, .ref h2, .ref kthis_trial, .int 1, .int 0])), (h1, .inl (cI, 2, .inl r1)), (h3, .inl (cI, 15, .inl r3)), (h2, .inl (cJ, 760, .inr (.inl u5)))] := hD
      refine lv_aload_n hx hb dX10_start_37 rfl (lv_at hl 0 rfl) ?_
      refine gf_X10_7 (v := .ref h3) S hK hP 0 rfl rfl dX10_start_38 ?_
      refine lv_iconst (v := 1) hx hb dX10_start_41 li_1 ?_
      refine aldI (k := 1) (q0 := 2) S hK hP rfl vl_1_15 tn_1 dX10_start_42 ?_
      subst h
      exact wRi S hr hlk (hP.sub [0, 1, 3, 2] rfl) (hD.sub [0, 1, 3, 2] (by decide) rfl) hS dX10_start_43
    · have h := iteN c4 h
      refine lv_aload_n hx hb dX10_start_19 rfl (lv_at hl 0 rfl) ?_
      refine lv_iconst (v := 1) hx hb dX10_start_20 li_1 ?_
      obtain ⟨y6, y7, e_y6⟩ : ∃ a0 a1, f_X10_fails 1 = (a0, a1) := ⟨_, _, rfl⟩
      have h := bnd2_eq e_y6 h
      refine wrV (pc1 := 24) (rest := []) (st1 := [.int y6]) (wr := [(h1, .inl (cI, 2, .inl r1)), (h2, .inl (cJ, 760, .inr (.inl r2))), (h3, .inl (cI, 15, .inl r3))]) S (c_X10_fails l D cI cJ cC h0 h3 kthis_rates h1 kthis_lengths kthis_flows h2 kthis_trial v0_phases v0_has 0 H.size 1 (y6, y7) e_y6) (cw_X10_43 S.2.2.2.2 ⟨Nat.le_of_ble_eq_true rfl, Nat.le_of_ble_eq_true rfl⟩) hK hP hD hS hA [0] [1, 2, 3] rfl rfl rfl (by decide) (by decide) (by decide) rfl rfl rfl rfl hl.1 rfl (Nat.le_of_ble_eq_true rfl) ⟨Nat.zero_le _, Nat.zero_le _⟩ rfl rfl dX10_start_21 (fun H locs hP hD hS => ?_)
      have hP : va_P D vwCl [(h1, .inl (cI, 2, .inl r1)), (h2, .inl (cJ, 760, .inr (.inl r2))), (h3, .inl (cI, 15, .inl r3)), (h0, .inr (10, [.ref h3, .ref kthis_rates, .ref h1, .ref kthis_lengths, .ref kthis_flows, .int v0_phases, .ref h2, .ref kthis_trial, .int v0_has, .int y7]))] H := hP
      have hD : va_D A [(h1, .inl (cI, 2, .inl r1)), (h2, .inl (cJ, 760, .inr (.inl r2))), (h3, .inl (cI, 15, .inl r3)), (h0, .inr (10, [.ref h3, .ref kthis_rates, .ref h1, .ref kthis_lengths, .ref kthis_flows, .int v0_phases, .ref h2, .ref kthis_trial, .int v0_has, .int y7]))] := hD
      subst h
      exact wRi S hr hlk (hP.sub [3, 0, 1, 2] rfl) (hD.sub [3, 0, 1, 2] (by decide) rfl) hS dX10_start_24
abbrev rm_X10_stop : Room := { frames := 1, cells := 0, slots := 0, locals := 21 }
theorem dX10_stop_0 : decode cX10_stop 0 = .ok (.aload_n 0, 1) := by decide +kernel
theorem dX10_stop_1 : decode cX10_stop 1 = .ok (.iconst 0, 1) := by decide +kernel
theorem dX10_stop_2 : decode cX10_stop 2 = .ok (.putfield 33, 3) := by decide +kernel
theorem dX10_stop_5 : decode cX10_stop 5 = .ok (.aload_n 0, 1) := by decide +kernel
theorem dX10_stop_6 : decode cX10_stop 6 = .ok (.getfield 53, 3) := by decide +kernel
theorem dX10_stop_9 : decode cX10_stop 9 = .ok (.ifCond .ne 9, 3) := by decide +kernel
theorem dX10_stop_12 : decode cX10_stop 12 = .ok (.aload_n 0, 1) := by decide +kernel
theorem dX10_stop_13 : decode cX10_stop 13 = .ok (.iconst 1, 1) := by decide +kernel
theorem dX10_stop_14 : decode cX10_stop 14 = .ok (.invokevirtual 43, 3) := by decide +kernel
theorem dX10_stop_17 : decode cX10_stop 17 = .ok (.ireturn, 1) := by decide +kernel
theorem dX10_stop_18 : decode cX10_stop 18 = .ok (.aload_n 0, 1) := by decide +kernel
theorem dX10_stop_19 : decode cX10_stop 19 = .ok (.iconst 0, 1) := by decide +kernel
theorem dX10_stop_20 : decode cX10_stop 20 = .ok (.putfield 53, 3) := by decide +kernel
theorem dX10_stop_23 : decode cX10_stop 23 = .ok (.aload_n 0, 1) := by decide +kernel
theorem dX10_stop_24 : decode cX10_stop 24 = .ok (.getfield 25, 3) := by decide +kernel
theorem dX10_stop_27 : decode cX10_stop 27 = .ok (.iconst 0, 1) := by decide +kernel
theorem dX10_stop_28 : decode cX10_stop 28 = .ok (.laload, 1) := by decide +kernel
theorem dX10_stop_29 : decode cX10_stop 29 = .ok (.l2i, 1) := by decide +kernel
theorem dX10_stop_30 : decode cX10_stop 30 = .ok (.ireturn, 1) := by decide +kernel
def f_X10_stop (v0_has : Int32) (r1 : Nat → Int64) : Int32 × Int32 × Int32 :=
  if v0_has = 0 then
    bnd2 (f_X10_fails 1) fun (y2 : Int32) (y3 : Int32) =>
    (y2, v0_has, y3)
  else
    ((r1 0).toInt32, 0, 0)
set_option maxHeartbeats 4000000 in
set_option maxRecDepth 100000 in
theorem c_X10_stop (l : Launch) (D : va_G) (cI cJ cC : ClassId) (h0 h1 kthis_p kthis_rates kthis_ladder kthis_lengths kthis_flows kthis_trial : Nat) (v0_phases v0_has v0_thrown : Int32) (r1 : Nat → Int64) (sz : Nat)  (T : Int32 × Int32 × Int32) (h : f_X10_stop v0_has r1 = T) : Met l yX10_stop (Cond.code yX10_stop cX10_stop 1 (some .int) :: TB) rm_X10_stop (PreW D cI cJ cC [(h0, .inr (10, [.ref kthis_p, .ref kthis_rates, .ref kthis_ladder, .ref kthis_lengths, .ref kthis_flows, .int v0_phases, .ref h1, .ref kthis_trial, .int v0_has, .int v0_thrown])), (h1, .inl (cJ, 760, .inr (.inl r1)))] sz [.ref h0]) (QW (some (.int T.1)) D [(h0, .inr (10, [.ref kthis_p, .ref kthis_rates, .ref kthis_ladder, .ref kthis_lengths, .ref kthis_flows, .int v0_phases, .ref h1, .ref kthis_trial, .int T.2.1, .int T.2.2])), (h1, .inl (cJ, 760, .inr (.inl r1)))] (va_A [(h0, .inr (10, [.ref kthis_p, .ref kthis_rates, .ref kthis_ladder, .ref kthis_lengths, .ref kthis_flows, .int v0_phases, .ref h1, .ref kthis_trial, .int v0_has, .int v0_thrown])), (h1, .inl (cJ, 760, .inr (.inl r1)))] sz)) 0 0 (va_A [(h0, .inr (10, [.ref kthis_p, .ref kthis_rates, .ref kthis_ladder, .ref kthis_lengths, .ref kthis_flows, .int v0_phases, .ref h1, .ref kthis_trial, .int v0_has, .int v0_thrown])), (h1, .inl (cJ, 760, .inr (.inl r1)))] sz) := by
  refine metW (own := RX10) (by decide) rfl (Nat.le_of_ble_eq_true rfl) ?_
  intro p e s m below meth c S hr hlk hP hK A hAe hD hA hS ls hl
  clear hAe
  have hx := S.1
  have hb := S.2.1
  have hl : lv_has ls 1 [(0, .ref h0)] := hl
  refine lv_aload_n hx hb dX10_stop_0 rfl (lv_at hl 0 rfl) ?_
  refine lv_iconst (v := 0) hx hb dX10_stop_1 li_0 ?_
  refine pf_X10_33 (v := .int 0) S hK hP hD hS 0 rfl (Nat.le_of_ble_eq_true rfl) rfl dX10_stop_2 (fun H locs hP hD hS => ?_)
  have hP : va_P D vwCl [(h0, .inr (10, [.ref kthis_p, .ref kthis_rates, .ref kthis_ladder, .ref kthis_lengths, .ref kthis_flows, .int v0_phases, .ref h1, .ref kthis_trial, .int v0_has, .int 0])), (h1, .inl (cJ, 760, .inr (.inl r1)))] H := hP
  have hD : va_D A [(h0, .inr (10, [.ref kthis_p, .ref kthis_rates, .ref kthis_ladder, .ref kthis_lengths, .ref kthis_flows, .int v0_phases, .ref h1, .ref kthis_trial, .int v0_has, .int 0])), (h1, .inl (cJ, 760, .inr (.inl r1)))] := hD
  refine lv_aload_n hx hb dX10_stop_5 rfl (lv_at hl 0 rfl) ?_
  refine gf_X10_53 (v := .int v0_has) S hK hP 0 rfl rfl dX10_stop_6 ?_
  refine lv_if_ne (tgt := 18) hx hb dX10_stop_9 (by decide) (fun c1 => ?_) (fun c1 => ?_)
  · have h := iteN c1 h
    refine lv_aload_n hx hb dX10_stop_18 rfl (lv_at hl 0 rfl) ?_
    refine lv_iconst (v := 0) hx hb dX10_stop_19 li_0 ?_
    refine pf_X10_53 (v := .int 0) S hK hP hD hS 0 rfl (Nat.le_of_ble_eq_true rfl) (by decide) (by decide) dX10_stop_20 (fun H locs hP hD hS => ?_)
    have hP : va_P D vwCl [(h0, .inr (10, [.ref kthis_p, .ref kthis_rates, .ref kthis_ladder, .ref kthis_lengths, .ref kthis_flows, .int v0_phases, .ref h1, .ref kthis_trial, .int 0, .int 0])), (h1, .inl (cJ, 760, .inr (.inl r1)))] H := hP
    have hD : va_D A [(h0, .inr (10, [.ref kthis_p, .ref kthis_rates, .ref kthis_ladder, .ref kthis_lengths, .ref kthis_flows, .int v0_phases, .ref h1, .ref kthis_trial, .int 0, .int 0])), (h1, .inl (cJ, 760, .inr (.inl r1)))] := hD
    refine lv_aload_n hx hb dX10_stop_23 rfl (lv_at hl 0 rfl) ?_
    refine gf_X10_25 (v := .ref h1) S hK hP 0 rfl rfl dX10_stop_24 ?_
    refine lv_iconst (v := 0) hx hb dX10_stop_27 li_0 ?_
    refine aldJ (k := 0) (q0 := 1) S hK hP rfl vl_0_760 tn_0 dX10_stop_28 ?_
    refine lv_l2i hx hb dX10_stop_29 rfl ?_
    subst h
    exact wRi S hr hlk (hP.sub [0, 1] rfl) (hD.sub [0, 1] (by decide) rfl) hS dX10_stop_30
  · have h := iteP c1 h
    refine lv_aload_n hx hb dX10_stop_12 rfl (lv_at hl 0 rfl) ?_
    refine lv_iconst (v := 1) hx hb dX10_stop_13 li_1 ?_
    obtain ⟨y2, y3, e_y2⟩ : ∃ a0 a1, f_X10_fails 1 = (a0, a1) := ⟨_, _, rfl⟩
    have h := bnd2_eq e_y2 h
    refine wrV (pc1 := 17) (rest := []) (st1 := [.int y2]) (wr := [(h1, .inl (cJ, 760, .inr (.inl r1)))]) S (c_X10_fails l D cI cJ cC h0 kthis_p kthis_rates kthis_ladder kthis_lengths kthis_flows h1 kthis_trial v0_phases v0_has 0 H.size 1 (y2, y3) e_y2) (cw_X10_43 S.2.2.2.2 ⟨Nat.le_of_ble_eq_true rfl, Nat.le_of_ble_eq_true rfl⟩) hK hP hD hS hA [0] [1] rfl rfl rfl (by decide) (by decide) (by decide) rfl rfl rfl rfl hl.1 rfl (Nat.le_of_ble_eq_true rfl) ⟨Nat.zero_le _, Nat.zero_le _⟩ rfl rfl dX10_stop_14 (fun H locs hP hD hS => ?_)
    have hP : va_P D vwCl [(h1, .inl (cJ, 760, .inr (.inl r1))), (h0, .inr (10, [.ref kthis_p, .ref kthis_rates, .ref kthis_ladder, .ref kthis_lengths, .ref kthis_flows, .int v0_phases, .ref h1, .ref kthis_trial, .int v0_has, .int y3]))] H := hP
    have hD : va_D A [(h1, .inl (cJ, 760, .inr (.inl r1))), (h0, .inr (10, [.ref kthis_p, .ref kthis_rates, .ref kthis_ladder, .ref kthis_lengths, .ref kthis_flows, .int v0_phases, .ref h1, .ref kthis_trial, .int v0_has, .int y3]))] := hD
    subst h
    exact wRi S hr hlk (hP.sub [1, 0] rfl) (hD.sub [1, 0] (by decide) rfl) hS dX10_stop_17
abbrev rm_X10_run : Room := { frames := 5, cells := 0, slots := 0, locals := 135 }
theorem dX10_run_0 : decode cX10_run 0 = .ok (.aload_n 0, 1) := by decide +kernel
theorem dX10_run_1 : decode cX10_run 1 = .ok (.iconst 0, 1) := by decide +kernel
theorem dX10_run_2 : decode cX10_run 2 = .ok (.putfield 33, 3) := by decide +kernel
theorem dX10_run_5 : decode cX10_run 5 = .ok (.iload_n 1, 1) := by decide +kernel
theorem dX10_run_6 : decode cX10_run 6 = .ok (.i2l, 1) := by decide +kernel
theorem dX10_run_7 : decode cX10_run 7 = .ok (.lconst 0, 1) := by decide +kernel
theorem dX10_run_8 : decode cX10_run 8 = .ok (.ldc2_w 171, 3) := by decide +kernel
theorem dX10_run_11 : decode cX10_run 11 = .ok (.invokestatic 39, 3) := by decide +kernel
theorem dX10_run_14 : decode cX10_run 14 = .ok (.ifCond .ne 9, 3) := by decide +kernel
theorem dX10_run_17 : decode cX10_run 17 = .ok (.aload_n 0, 1) := by decide +kernel
theorem dX10_run_18 : decode cX10_run 18 = .ok (.iconst 1, 1) := by decide +kernel
theorem dX10_run_19 : decode cX10_run 19 = .ok (.invokevirtual 43, 3) := by decide +kernel
theorem dX10_run_22 : decode cX10_run 22 = .ok (.ireturn, 1) := by decide +kernel
theorem dX10_run_23 : decode cX10_run 23 = .ok (.aload_n 0, 1) := by decide +kernel
theorem dX10_run_24 : decode cX10_run 24 = .ok (.getfield 53, 3) := by decide +kernel
theorem dX10_run_27 : decode cX10_run 27 = .ok (.ifCond .eq 19, 3) := by decide +kernel
theorem dX10_run_30 : decode cX10_run 30 = .ok (.aload_n 0, 1) := by decide +kernel
theorem dX10_run_31 : decode cX10_run 31 = .ok (.getfield 25, 3) := by decide +kernel
theorem dX10_run_34 : decode cX10_run 34 = .ok (.iconst 0, 1) := by decide +kernel
theorem dX10_run_35 : decode cX10_run 35 = .ok (.laload, 1) := by decide +kernel
theorem dX10_run_36 : decode cX10_run 36 = .ok (.iload_n 1, 1) := by decide +kernel
theorem dX10_run_37 : decode cX10_run 37 = .ok (.i2l, 1) := by decide +kernel
theorem dX10_run_38 : decode cX10_run 38 = .ok (.ladd, 1) := by decide +kernel
theorem dX10_run_39 : decode cX10_run 39 = .ok (.ldc2_w 173, 3) := by decide +kernel
theorem dX10_run_42 : decode cX10_run 42 = .ok (.lcmp, 1) := by decide +kernel
theorem dX10_run_43 : decode cX10_run 43 = .ok (.ifCond .le 9, 3) := by decide +kernel
theorem dX10_run_46 : decode cX10_run 46 = .ok (.aload_n 0, 1) := by decide +kernel
theorem dX10_run_47 : decode cX10_run 47 = .ok (.iconst 2, 1) := by decide +kernel
theorem dX10_run_48 : decode cX10_run 48 = .ok (.invokevirtual 43, 3) := by decide +kernel
theorem dX10_run_51 : decode cX10_run 51 = .ok (.ireturn, 1) := by decide +kernel
theorem dX10_run_52 : decode cX10_run 52 = .ok (.aload_n 0, 1) := by decide +kernel
theorem dX10_run_53 : decode cX10_run 53 = .ok (.aload_n 0, 1) := by decide +kernel
theorem dX10_run_54 : decode cX10_run 54 = .ok (.getfield 25, 3) := by decide +kernel
theorem dX10_run_57 : decode cX10_run 57 = .ok (.iload_n 1, 1) := by decide +kernel
theorem dX10_run_58 : decode cX10_run 58 = .ok (.aload_n 0, 1) := by decide +kernel
theorem dX10_run_59 : decode cX10_run 59 = .ok (.getfield 7, 3) := by decide +kernel
theorem dX10_run_62 : decode cX10_run 62 = .ok (.bipush 12, 2) := by decide +kernel
theorem dX10_run_64 : decode cX10_run 64 = .ok (.iaload, 1) := by decide +kernel
theorem dX10_run_65 : decode cX10_run 65 = .ok (.aload_n 0, 1) := by decide +kernel
theorem dX10_run_66 : decode cX10_run 66 = .ok (.getfield 7, 3) := by decide +kernel
theorem dX10_run_69 : decode cX10_run 69 = .ok (.iconst 3, 1) := by decide +kernel
theorem dX10_run_70 : decode cX10_run 70 = .ok (.iaload, 1) := by decide +kernel
theorem dX10_run_71 : decode cX10_run 71 = .ok (.invokevirtual 175, 3) := by decide +kernel
theorem dX10_run_74 : decode cX10_run 74 = .ok (.aload_n 0, 1) := by decide +kernel
theorem dX10_run_75 : decode cX10_run 75 = .ok (.getfield 25, 3) := by decide +kernel
theorem dX10_run_78 : decode cX10_run 78 = .ok (.iconst 1, 1) := by decide +kernel
theorem dX10_run_79 : decode cX10_run 79 = .ok (.laload, 1) := by decide +kernel
theorem dX10_run_80 : decode cX10_run 80 = .ok (.l2i, 1) := by decide +kernel
theorem dX10_run_81 : decode cX10_run 81 = .ok (.ireturn, 1) := by decide +kernel
theorem cw_X10_175 {R : Room} {s : State} {args : Array Value} (hts : ∀ w ∈ TB, w.before args s = true) (hR : rm_X10_goesOn.frames + 1 ≤ R.frames ∧ 8 + (7 + 11) + rm_X10_goesOn.locals ≤ R.locals) : CallW R s args RX10 RX10 175 yX10_goesOn cX10_goesOn 7 none (Cond.code yX10_goesOn cX10_goesOn 7 none :: TB) rm_X10_goesOn 0 0 4 := cwV 4 hts (gV tb1071 tb1072 tb25 tb57 tb1073) rfl rfl rfl ⟨rfl, by decide, by decide, by decide +kernel⟩ hR
def f_X10_run (v0_phases v0_has : Int32) (r1 r2 r3 : Nat → Int32) (r4 : Nat → Int64) (r5 r6 : Nat → Int32) (p0 : Int32) : Option (Int32 × Int32 × (Nat → Int64)) :=
  if (f_X10_in p0.toInt64 0 20000) = 0 then
    bnd2 (f_X10_fails 1) fun (y9 : Int32) (y10 : Int32) =>
    some (y9, y10, r4)
  else
    if v0_has = 0 then
      bnd2 (f_X10_fails 2) fun (y3 : Int32) (y4 : Int32) =>
      some (y3, y4, r4)
    else
      if ((r4 0) + p0.toInt64) ≤ 10000000 then
        obnd (f_X10_goesOn v0_phases r1 r2 r3 r5 r6 r4 p0 (r5 12) (r5 3)) fun (u6 : Nat → Int64) =>
        some ((u6 1).toInt32, 0, u6)
      else
        bnd2 (f_X10_fails 2) fun (y7 : Int32) (y8 : Int32) =>
        some (y7, y8, r4)
set_option maxHeartbeats 4000000 in
set_option maxRecDepth 100000 in
theorem c_X10_run (l : Launch) (D : va_G) (cI cJ cC : ClassId) (h0 h1 h2 h3 h4 h5 h6 kthis_trial : Nat) (v0_phases v0_has v0_thrown : Int32) (r1 r2 r3 : Nat → Int32) (r4 : Nat → Int64) (r5 r6 : Nat → Int32) (sz : Nat) (p0 : Int32) (T : Int32 × Int32 × (Nat → Int64)) (h : f_X10_run v0_phases v0_has r1 r2 r3 r4 r5 r6 p0 = some T) : Met l yX10_run (Cond.code yX10_run cX10_run 2 (some .int) :: TB) rm_X10_run (PreW D cI cJ cC [(h0, .inr (10, [.ref h5, .ref h6, .ref h2, .ref h3, .ref h1, .int v0_phases, .ref h4, .ref kthis_trial, .int v0_has, .int v0_thrown])), (h1, .inl (cI, 20, .inl r1)), (h2, .inl (cI, 2, .inl r2)), (h3, .inl (cI, 20, .inl r3)), (h4, .inl (cJ, 760, .inr (.inl r4))), (h5, .inl (cI, 15, .inl r5)), (h6, .inl (cI, 12, .inl r6))] sz [.ref h0, .int p0]) (QW (some (.int T.1)) D [(h0, .inr (10, [.ref h5, .ref h6, .ref h2, .ref h3, .ref h1, .int v0_phases, .ref h4, .ref kthis_trial, .int v0_has, .int T.2.1])), (h1, .inl (cI, 20, .inl r1)), (h2, .inl (cI, 2, .inl r2)), (h3, .inl (cI, 20, .inl r3)), (h4, .inl (cJ, 760, .inr (.inl T.2.2))), (h5, .inl (cI, 15, .inl r5)), (h6, .inl (cI, 12, .inl r6))] (va_A [(h0, .inr (10, [.ref h5, .ref h6, .ref h2, .ref h3, .ref h1, .int v0_phases, .ref h4, .ref kthis_trial, .int v0_has, .int v0_thrown])), (h1, .inl (cI, 20, .inl r1)), (h2, .inl (cI, 2, .inl r2)), (h3, .inl (cI, 20, .inl r3)), (h4, .inl (cJ, 760, .inr (.inl r4))), (h5, .inl (cI, 15, .inl r5)), (h6, .inl (cI, 12, .inl r6))] sz)) 0 0 (va_A [(h0, .inr (10, [.ref h5, .ref h6, .ref h2, .ref h3, .ref h1, .int v0_phases, .ref h4, .ref kthis_trial, .int v0_has, .int v0_thrown])), (h1, .inl (cI, 20, .inl r1)), (h2, .inl (cI, 2, .inl r2)), (h3, .inl (cI, 20, .inl r3)), (h4, .inl (cJ, 760, .inr (.inl r4))), (h5, .inl (cI, 15, .inl r5)), (h6, .inl (cI, 12, .inl r6))] sz) := by
  refine metW (own := RX10) (by decide) rfl (Nat.le_of_ble_eq_true rfl) ?_
  intro p e s m below meth c S hr hlk hP hK A hAe hD hA hS ls hl
  clear hAe
  have hx := S.1
  have hb := S.2.1
  have hl : lv_has ls 2 [(0, .ref h0), (1, .int p0)] := hl
  refine lv_aload_n hx hb dX10_run_0 rfl (lv_at hl 0 rfl) ?_
  refine lv_iconst (v := 0) hx hb dX10_run_1 li_0 ?_
  refine pf_X10_33 (v := .int 0) S hK hP hD hS 0 rfl (Nat.le_of_ble_eq_true rfl) rfl dX10_run_2 (fun H locs hP hD hS => ?_)
  have hP : va_P D vwCl [(h0, .inr (10, [.ref h5, .ref h6, .ref h2, .ref h3, .ref h1, .int v0_phases, .ref h4, .ref kthis_trial, .int v0_has, .int 0])), (h1, .inl (cI, 20, .inl r1)), (h2, .inl (cI, 2, .inl r2)), (h3, .inl (cI, 20, .inl r3)), (h4, .inl (cJ, 760, .inr (.inl r4))), (h5, .inl (cI, 15, .inl r5)), (h6, .inl (cI, 12, .inl r6))] H := hP
  have hD : va_D A [(h0, .inr (10, [.ref h5, .ref h6, .ref h2, .ref h3, .ref h1, .int v0_phases, .ref h4, .ref kthis_trial, .int v0_has, .int 0])), (h1, .inl (cI, 20, .inl r1)), (h2, .inl (cI, 2, .inl r2)), (h3, .inl (cI, 20, .inl r3)), (h4, .inl (cJ, 760, .inr (.inl r4))), (h5, .inl (cI, 15, .inl r5)), (h6, .inl (cI, 12, .inl r6))] := hD
  refine lv_iload_n hx hb dX10_run_5 rfl (lv_at hl 1 rfl) ?_
  refine lv_i2l hx hb dX10_run_6 rfl ?_
  refine lv_lconst (v := 0) hx hb dX10_run_7 rfl ?_
  refine lv_ldc2 (v := 20000) hx hb S.2.2.2.1 (S.2.2.2.2 _ tb1069) dX10_run_8 ?_
  refine rdS (pc1 := 14) (rest := []) (st1 := [.int (f_X10_in p0.toInt64 0 20000)]) S (c_X10_in l D cI cJ cC  p0.toInt64 0 20000 _ rfl) (cw_X10_39 S.2.2.2.2 ⟨Nat.le_of_ble_eq_true rfl, Nat.le_of_ble_eq_true rfl⟩) hK (hP.sub [] rfl) rfl hl.1 rfl (Nat.le_of_ble_eq_true rfl) ⟨Nat.zero_le _, Nat.zero_le _⟩ rfl rfl dX10_run_11 ?_
  refine lv_if_ne (tgt := 23) hx hb dX10_run_14 (by decide) (fun c1 => ?_) (fun c1 => ?_)
  · have h := iteN c1 h
    refine lv_aload_n hx hb dX10_run_23 rfl (lv_at hl 0 rfl) ?_
    refine gf_X10_53 (v := .int v0_has) S hK hP 0 rfl rfl dX10_run_24 ?_
    refine lv_if_eq (tgt := 46) hx hb dX10_run_27 (by decide) (fun c2 => ?_) (fun c2 => ?_)
    · have h := iteP c2 h
      refine lv_aload_n hx hb dX10_run_46 rfl (lv_at hl 0 rfl) ?_
      refine lv_iconst (v := 2) hx hb dX10_run_47 li_2 ?_
      obtain ⟨y3, y4, e_y3⟩ : ∃ a0 a1, f_X10_fails 2 = (a0, a1) := ⟨_, _, rfl⟩
      have h := bnd2_eq e_y3 h
      refine wrV (pc1 := 51) (rest := []) (st1 := [.int y3]) (wr := [(h1, .inl (cI, 20, .inl r1)), (h2, .inl (cI, 2, .inl r2)), (h3, .inl (cI, 20, .inl r3)), (h4, .inl (cJ, 760, .inr (.inl r4))), (h5, .inl (cI, 15, .inl r5)), (h6, .inl (cI, 12, .inl r6))]) S (c_X10_fails l D cI cJ cC h0 h5 h6 h2 h3 h1 h4 kthis_trial v0_phases v0_has 0 H.size 2 (y3, y4) e_y3) (cw_X10_43 S.2.2.2.2 ⟨Nat.le_of_ble_eq_true rfl, Nat.le_of_ble_eq_true rfl⟩) hK hP hD hS hA [0] [1, 2, 3, 4, 5, 6] rfl rfl rfl (by decide) (by decide) (by decide) rfl rfl rfl rfl hl.1 rfl (Nat.le_of_ble_eq_true rfl) ⟨Nat.zero_le _, Nat.zero_le _⟩ rfl rfl dX10_run_48 (fun H locs hP hD hS => ?_)
      have hP : va_P D vwCl [(h1, .inl (cI, 20, .inl r1)), (h2, .inl (cI, 2, .inl r2)), (h3, .inl (cI, 20, .inl r3)), (h4, .inl (cJ, 760, .inr (.inl r4))), (h5, .inl (cI, 15, .inl r5)), (h6, .inl (cI, 12, .inl r6)), (h0, .inr (10, [.ref h5, .ref h6, .ref h2, .ref h3, .ref h1, .int v0_phases, .ref h4, .ref kthis_trial, .int v0_has, .int y4]))] H := hP
      have hD : va_D A [(h1, .inl (cI, 20, .inl r1)), (h2, .inl (cI, 2, .inl r2)), (h3, .inl (cI, 20, .inl r3)), (h4, .inl (cJ, 760, .inr (.inl r4))), (h5, .inl (cI, 15, .inl r5)), (h6, .inl (cI, 12, .inl r6)), (h0, .inr (10, [.ref h5, .ref h6, .ref h2, .ref h3, .ref h1, .int v0_phases, .ref h4, .ref kthis_trial, .int v0_has, .int y4]))] := hD
      have h := Option.some.inj h
      subst h
      exact wRi S hr hlk (hP.sub [6, 0, 1, 2, 3, 4, 5] rfl) (hD.sub [6, 0, 1, 2, 3, 4, 5] (by decide) rfl) hS dX10_run_51
    · have h := iteN c2 h
      refine lv_aload_n hx hb dX10_run_30 rfl (lv_at hl 0 rfl) ?_
      refine gf_X10_25 (v := .ref h4) S hK hP 0 rfl rfl dX10_run_31 ?_
      refine lv_iconst (v := 0) hx hb dX10_run_34 li_0 ?_
      refine aldJ (k := 0) (q0 := 4) S hK hP rfl vl_0_760 tn_0 dX10_run_35 ?_
      refine lv_iload_n hx hb dX10_run_36 rfl (lv_at hl 1 rfl) ?_
      refine lv_i2l hx hb dX10_run_37 rfl ?_
      refine lv_ladd hx hb dX10_run_38 ?_
      refine lv_ldc2 (v := 10000000) hx hb S.2.2.2.1 (S.2.2.2.2 _ tb1070) dX10_run_39 ?_
      refine lc_le (tgt := 52) hx hb dX10_run_42 dX10_run_43 (by decide) (fun c5 => ?_) (fun c5 => ?_)
      · have h := iteP c5 h
        refine lv_aload_n hx hb dX10_run_52 rfl (lv_at hl 0 rfl) ?_
        refine lv_aload_n hx hb dX10_run_53 rfl (lv_at hl 0 rfl) ?_
        refine gf_X10_25 (v := .ref h4) S hK hP 0 rfl rfl dX10_run_54 ?_
        refine lv_iload_n hx hb dX10_run_57 rfl (lv_at hl 1 rfl) ?_
        refine lv_aload_n hx hb dX10_run_58 rfl (lv_at hl 0 rfl) ?_
        refine gf_X10_7 (v := .ref h5) S hK hP 0 rfl rfl dX10_run_59 ?_
        refine lv_bipush (v := 12) hx hb dX10_run_62 lb_12 ?_
        refine aldI (k := 12) (q0 := 5) S hK hP rfl vl_12_15 tn_12 dX10_run_64 ?_
        refine lv_aload_n hx hb dX10_run_65 rfl (lv_at hl 0 rfl) ?_
        refine gf_X10_7 (v := .ref h5) S hK hP 0 rfl rfl dX10_run_66 ?_
        refine lv_iconst (v := 3) hx hb dX10_run_69 li_3 ?_
        refine aldI (k := 3) (q0 := 5) S hK hP rfl vl_3_15 tn_3 dX10_run_70 ?_
        obtain ⟨u6, e_u6, h⟩ := obnd_eq h
        refine wrV (pc1 := 74) (rest := []) (st1 := []) (wr := []) S (c_X10_goesOn l D cI cJ cC h0 h1 h2 h3 h5 h6 h4 h4 kthis_trial v0_phases v0_has 0 r1 r2 r3 r5 r6 r4 H.size p0 (r5 12) (r5 3) u6 e_u6) (cw_X10_175 S.2.2.2.2 ⟨Nat.le_of_ble_eq_true rfl, Nat.le_of_ble_eq_true rfl⟩) hK hP hD hS hA [0, 1, 2, 3, 5, 6, 4] [] rfl rfl rfl (by decide) (by decide) (by decide) rfl rfl rfl rfl hl.1 rfl (Nat.le_of_ble_eq_true rfl) ⟨Nat.zero_le _, Nat.zero_le _⟩ rfl rfl dX10_run_71 (fun H locs hP hD hS => ?_)
        have hP : va_P D vwCl [(h0, .inr (10, [.ref h5, .ref h6, .ref h2, .ref h3, .ref h1, .int v0_phases, .ref h4, .ref kthis_trial, .int v0_has, .int 0])), (h1, .inl (cI, 20, .inl r1)), (h2, .inl (cI, 2, .inl r2)), (h3, .inl (cI, 20, .inl r3)), (h5, .inl (cI, 15, .inl r5)), (h6, .inl (cI, 12, .inl r6)), (h4, .inl (cJ, 760, .inr (.inl u6)))] H := hP
        have hD : va_D A [(h0, .inr (10, [.ref h5, .ref h6, .ref h2, .ref h3, .ref h1, .int v0_phases, .ref h4, .ref kthis_trial, .int v0_has, .int 0])), (h1, .inl (cI, 20, .inl r1)), (h2, .inl (cI, 2, .inl r2)), (h3, .inl (cI, 20, .inl r3)), (h5, .inl (cI, 15, .inl r5)), (h6, .inl (cI, 12, .inl r6)), (h4, .inl (cJ, 760, .inr (.inl u6)))] := hD
        refine lv_aload_n hx hb dX10_run_74 rfl (lv_at hl 0 rfl) ?_
        refine gf_X10_25 (v := .ref h4) S hK hP 0 rfl rfl dX10_run_75 ?_
        refine lv_iconst (v := 1) hx hb dX10_run_78 li_1 ?_
        refine aldJ (k := 1) (q0 := 6) S hK hP rfl vl_1_760 tn_1 dX10_run_79 ?_
        refine lv_l2i hx hb dX10_run_80 rfl ?_
        have h := Option.some.inj h
        subst h
        exact wRi S hr hlk (hP.sub [0, 1, 2, 3, 6, 4, 5] rfl) (hD.sub [0, 1, 2, 3, 6, 4, 5] (by decide) rfl) hS dX10_run_81
      · have h := iteN c5 h
        refine lv_aload_n hx hb dX10_run_46 rfl (lv_at hl 0 rfl) ?_
        refine lv_iconst (v := 2) hx hb dX10_run_47 li_2 ?_
        obtain ⟨y7, y8, e_y7⟩ : ∃ a0 a1, f_X10_fails 2 = (a0, a1) := ⟨_, _, rfl⟩
        have h := bnd2_eq e_y7 h
        refine wrV (pc1 := 51) (rest := []) (st1 := [.int y7]) (wr := [(h1, .inl (cI, 20, .inl r1)), (h2, .inl (cI, 2, .inl r2)), (h3, .inl (cI, 20, .inl r3)), (h4, .inl (cJ, 760, .inr (.inl r4))), (h5, .inl (cI, 15, .inl r5)), (h6, .inl (cI, 12, .inl r6))]) S (c_X10_fails l D cI cJ cC h0 h5 h6 h2 h3 h1 h4 kthis_trial v0_phases v0_has 0 H.size 2 (y7, y8) e_y7) (cw_X10_43 S.2.2.2.2 ⟨Nat.le_of_ble_eq_true rfl, Nat.le_of_ble_eq_true rfl⟩) hK hP hD hS hA [0] [1, 2, 3, 4, 5, 6] rfl rfl rfl (by decide) (by decide) (by decide) rfl rfl rfl rfl hl.1 rfl (Nat.le_of_ble_eq_true rfl) ⟨Nat.zero_le _, Nat.zero_le _⟩ rfl rfl dX10_run_48 (fun H locs hP hD hS => ?_)
        have hP : va_P D vwCl [(h1, .inl (cI, 20, .inl r1)), (h2, .inl (cI, 2, .inl r2)), (h3, .inl (cI, 20, .inl r3)), (h4, .inl (cJ, 760, .inr (.inl r4))), (h5, .inl (cI, 15, .inl r5)), (h6, .inl (cI, 12, .inl r6)), (h0, .inr (10, [.ref h5, .ref h6, .ref h2, .ref h3, .ref h1, .int v0_phases, .ref h4, .ref kthis_trial, .int v0_has, .int y8]))] H := hP
        have hD : va_D A [(h1, .inl (cI, 20, .inl r1)), (h2, .inl (cI, 2, .inl r2)), (h3, .inl (cI, 20, .inl r3)), (h4, .inl (cJ, 760, .inr (.inl r4))), (h5, .inl (cI, 15, .inl r5)), (h6, .inl (cI, 12, .inl r6)), (h0, .inr (10, [.ref h5, .ref h6, .ref h2, .ref h3, .ref h1, .int v0_phases, .ref h4, .ref kthis_trial, .int v0_has, .int y8]))] := hD
        have h := Option.some.inj h
        subst h
        exact wRi S hr hlk (hP.sub [6, 0, 1, 2, 3, 4, 5] rfl) (hD.sub [6, 0, 1, 2, 3, 4, 5] (by decide) rfl) hS dX10_run_51
  · have h := iteP c1 h
    refine lv_aload_n hx hb dX10_run_17 rfl (lv_at hl 0 rfl) ?_
    refine lv_iconst (v := 1) hx hb dX10_run_18 li_1 ?_
    obtain ⟨y9, y10, e_y9⟩ : ∃ a0 a1, f_X10_fails 1 = (a0, a1) := ⟨_, _, rfl⟩
    have h := bnd2_eq e_y9 h
    refine wrV (pc1 := 22) (rest := []) (st1 := [.int y9]) (wr := [(h1, .inl (cI, 20, .inl r1)), (h2, .inl (cI, 2, .inl r2)), (h3, .inl (cI, 20, .inl r3)), (h4, .inl (cJ, 760, .inr (.inl r4))), (h5, .inl (cI, 15, .inl r5)), (h6, .inl (cI, 12, .inl r6))]) S (c_X10_fails l D cI cJ cC h0 h5 h6 h2 h3 h1 h4 kthis_trial v0_phases v0_has 0 H.size 1 (y9, y10) e_y9) (cw_X10_43 S.2.2.2.2 ⟨Nat.le_of_ble_eq_true rfl, Nat.le_of_ble_eq_true rfl⟩) hK hP hD hS hA [0] [1, 2, 3, 4, 5, 6] rfl rfl rfl (by decide) (by decide) (by decide) rfl rfl rfl rfl hl.1 rfl (Nat.le_of_ble_eq_true rfl) ⟨Nat.zero_le _, Nat.zero_le _⟩ rfl rfl dX10_run_19 (fun H locs hP hD hS => ?_)
    have hP : va_P D vwCl [(h1, .inl (cI, 20, .inl r1)), (h2, .inl (cI, 2, .inl r2)), (h3, .inl (cI, 20, .inl r3)), (h4, .inl (cJ, 760, .inr (.inl r4))), (h5, .inl (cI, 15, .inl r5)), (h6, .inl (cI, 12, .inl r6)), (h0, .inr (10, [.ref h5, .ref h6, .ref h2, .ref h3, .ref h1, .int v0_phases, .ref h4, .ref kthis_trial, .int v0_has, .int y10]))] H := hP
    have hD : va_D A [(h1, .inl (cI, 20, .inl r1)), (h2, .inl (cI, 2, .inl r2)), (h3, .inl (cI, 20, .inl r3)), (h4, .inl (cJ, 760, .inr (.inl r4))), (h5, .inl (cI, 15, .inl r5)), (h6, .inl (cI, 12, .inl r6)), (h0, .inr (10, [.ref h5, .ref h6, .ref h2, .ref h3, .ref h1, .int v0_phases, .ref h4, .ref kthis_trial, .int v0_has, .int y10]))] := hD
    have h := Option.some.inj h
    subst h
    exact wRi S hr hlk (hP.sub [6, 0, 1, 2, 3, 4, 5] rfl) (hD.sub [6, 0, 1, 2, 3, 4, 5] (by decide) rfl) hS dX10_run_22
abbrev rm_X10_state : Room := { frames := 0, cells := 0, slots := 0, locals := 0 }
theorem dX10_state_0 : decode cX10_state 0 = .ok (.aload_n 0, 1) := by decide +kernel
theorem dX10_state_1 : decode cX10_state 1 = .ok (.iconst 0, 1) := by decide +kernel
theorem dX10_state_2 : decode cX10_state 2 = .ok (.putfield 33, 3) := by decide +kernel
theorem dX10_state_5 : decode cX10_state 5 = .ok (.aload_n 0, 1) := by decide +kernel
theorem dX10_state_6 : decode cX10_state 6 = .ok (.getfield 53, 3) := by decide +kernel
theorem dX10_state_9 : decode cX10_state 9 = .ok (.ifCond .eq 13, 3) := by decide +kernel
theorem dX10_state_12 : decode cX10_state 12 = .ok (.aload_n 0, 1) := by decide +kernel
theorem dX10_state_13 : decode cX10_state 13 = .ok (.getfield 25, 3) := by decide +kernel
theorem dX10_state_16 : decode cX10_state 16 = .ok (.iconst 2, 1) := by decide +kernel
theorem dX10_state_17 : decode cX10_state 17 = .ok (.laload, 1) := by decide +kernel
theorem dX10_state_18 : decode cX10_state 18 = .ok (.l2i, 1) := by decide +kernel
theorem dX10_state_19 : decode cX10_state 19 = .ok (.goto 4, 3) := by decide +kernel
theorem dX10_state_22 : decode cX10_state 22 = .ok (.iconst 0, 1) := by decide +kernel
theorem dX10_state_23 : decode cX10_state 23 = .ok (.ireturn, 1) := by decide +kernel
def f_X10_state (v0_has : Int32) (r1 : Nat → Int64) : Int32 × Int32 :=
  if v0_has = 0 then
    (0, 0)
  else
    ((r1 2).toInt32, 0)
set_option maxHeartbeats 4000000 in
set_option maxRecDepth 100000 in
theorem c_X10_state (l : Launch) (D : va_G) (cI cJ cC : ClassId) (h0 h1 kthis_p kthis_rates kthis_ladder kthis_lengths kthis_flows kthis_trial : Nat) (v0_phases v0_has v0_thrown : Int32) (r1 : Nat → Int64) (sz : Nat)  (T : Int32 × Int32) (h : f_X10_state v0_has r1 = T) : Met l yX10_state (Cond.code yX10_state cX10_state 1 (some .int) :: TB) rm_X10_state (PreW D cI cJ cC [(h0, .inr (10, [.ref kthis_p, .ref kthis_rates, .ref kthis_ladder, .ref kthis_lengths, .ref kthis_flows, .int v0_phases, .ref h1, .ref kthis_trial, .int v0_has, .int v0_thrown])), (h1, .inl (cJ, 760, .inr (.inl r1)))] sz [.ref h0]) (QW (some (.int T.1)) D [(h0, .inr (10, [.ref kthis_p, .ref kthis_rates, .ref kthis_ladder, .ref kthis_lengths, .ref kthis_flows, .int v0_phases, .ref h1, .ref kthis_trial, .int v0_has, .int T.2])), (h1, .inl (cJ, 760, .inr (.inl r1)))] (va_A [(h0, .inr (10, [.ref kthis_p, .ref kthis_rates, .ref kthis_ladder, .ref kthis_lengths, .ref kthis_flows, .int v0_phases, .ref h1, .ref kthis_trial, .int v0_has, .int v0_thrown])), (h1, .inl (cJ, 760, .inr (.inl r1)))] sz)) 0 0 (va_A [(h0, .inr (10, [.ref kthis_p, .ref kthis_rates, .ref kthis_ladder, .ref kthis_lengths, .ref kthis_flows, .int v0_phases, .ref h1, .ref kthis_trial, .int v0_has, .int v0_thrown])), (h1, .inl (cJ, 760, .inr (.inl r1)))] sz) := by
  refine metW (own := RX10) (by decide) rfl (Nat.le_of_ble_eq_true rfl) ?_
  intro p e s m below meth c S hr hlk hP hK A hAe hD hA hS ls hl
  clear hAe
  have hx := S.1
  have hb := S.2.1
  have hl : lv_has ls 1 [(0, .ref h0)] := hl
  refine lv_aload_n hx hb dX10_state_0 rfl (lv_at hl 0 rfl) ?_
  refine lv_iconst (v := 0) hx hb dX10_state_1 li_0 ?_
  refine pf_X10_33 (v := .int 0) S hK hP hD hS 0 rfl (Nat.le_of_ble_eq_true rfl) rfl dX10_state_2 (fun H locs hP hD hS => ?_)
  have hP : va_P D vwCl [(h0, .inr (10, [.ref kthis_p, .ref kthis_rates, .ref kthis_ladder, .ref kthis_lengths, .ref kthis_flows, .int v0_phases, .ref h1, .ref kthis_trial, .int v0_has, .int 0])), (h1, .inl (cJ, 760, .inr (.inl r1)))] H := hP
  have hD : va_D A [(h0, .inr (10, [.ref kthis_p, .ref kthis_rates, .ref kthis_ladder, .ref kthis_lengths, .ref kthis_flows, .int v0_phases, .ref h1, .ref kthis_trial, .int v0_has, .int 0])), (h1, .inl (cJ, 760, .inr (.inl r1)))] := hD
  refine lv_aload_n hx hb dX10_state_5 rfl (lv_at hl 0 rfl) ?_
  refine gf_X10_53 (v := .int v0_has) S hK hP 0 rfl rfl dX10_state_6 ?_
  refine lv_if_eq (tgt := 22) hx hb dX10_state_9 (by decide) (fun c1 => ?_) (fun c1 => ?_)
  · have h := iteP c1 h
    refine lv_iconst (v := 0) hx hb dX10_state_22 li_0 ?_
    subst h
    exact wRi S hr hlk (hP.sub [0, 1] rfl) (hD.sub [0, 1] (by decide) rfl) hS dX10_state_23
  · have h := iteN c1 h
    refine lv_aload_n hx hb dX10_state_12 rfl (lv_at hl 0 rfl) ?_
    refine gf_X10_25 (v := .ref h1) S hK hP 0 rfl rfl dX10_state_13 ?_
    refine lv_iconst (v := 2) hx hb dX10_state_16 li_2 ?_
    refine aldJ (k := 2) (q0 := 1) S hK hP rfl vl_2_760 tn_2 dX10_state_17 ?_
    refine lv_l2i hx hb dX10_state_18 rfl ?_
    refine lv_goto (tgt := 23) hx hb dX10_state_19 (by decide) ?_
    subst h
    exact wRi S hr hlk (hP.sub [0, 1] rfl) (hD.sub [0, 1] (by decide) rfl) hS dX10_state_23
abbrev rm_X10_told : Room := { frames := 0, cells := 0, slots := 0, locals := 0 }
theorem dX10_told_0 : decode cX10_told 0 = .ok (.aload_n 0, 1) := by decide +kernel
theorem dX10_told_1 : decode cX10_told 1 = .ok (.aload_n 0, 1) := by decide +kernel
theorem dX10_told_2 : decode cX10_told 2 = .ok (.getfield 53, 3) := by decide +kernel
theorem dX10_told_5 : decode cX10_told 5 = .ok (.ifCond .eq 7, 3) := by decide +kernel
theorem dX10_told_8 : decode cX10_told 8 = .ok (.iconst 0, 1) := by decide +kernel
theorem dX10_told_9 : decode cX10_told 9 = .ok (.goto 4, 3) := by decide +kernel
theorem dX10_told_12 : decode cX10_told 12 = .ok (.iconst 1, 1) := by decide +kernel
theorem dX10_told_13 : decode cX10_told 13 = .ok (.putfield 33, 3) := by decide +kernel
theorem dX10_told_16 : decode cX10_told 16 = .ok (.aload_n 0, 1) := by decide +kernel
theorem dX10_told_17 : decode cX10_told 17 = .ok (.getfield 53, 3) := by decide +kernel
theorem dX10_told_20 : decode cX10_told 20 = .ok (.ifCond .eq 7, 3) := by decide +kernel
theorem dX10_told_23 : decode cX10_told 23 = .ok (.lload_n 1, 1) := by decide +kernel
theorem dX10_told_24 : decode cX10_told 24 = .ok (.goto 4, 3) := by decide +kernel
theorem dX10_told_27 : decode cX10_told 27 = .ok (.lconst 0, 1) := by decide +kernel
theorem dX10_told_28 : decode cX10_told 28 = .ok (.lreturn, 1) := by decide +kernel
def f_X10_told (v0_has : Int32) (p0 : Int64) : Int64 × Int32 :=
  if v0_has = 0 then
    if v0_has = 0 then
      (0, 1)
    else
      (p0, 1)
  else
    if v0_has = 0 then
      (0, 0)
    else
      (p0, 0)
set_option maxHeartbeats 4000000 in
set_option maxRecDepth 100000 in
theorem c_X10_told (l : Launch) (D : va_G) (cI cJ cC : ClassId) (h0 kthis_p kthis_rates kthis_ladder kthis_lengths kthis_flows kthis_now kthis_trial : Nat) (v0_phases v0_has v0_thrown : Int32) (sz : Nat) (p0 : Int64) (T : Int64 × Int32) (h : f_X10_told v0_has p0 = T) : Met l yX10_told (Cond.code yX10_told cX10_told 3 (some .long) :: TB) rm_X10_told (PreW D cI cJ cC [(h0, .inr (10, [.ref kthis_p, .ref kthis_rates, .ref kthis_ladder, .ref kthis_lengths, .ref kthis_flows, .int v0_phases, .ref kthis_now, .ref kthis_trial, .int v0_has, .int v0_thrown]))] sz [.ref h0, .long p0]) (QW (some (.long T.1)) D [(h0, .inr (10, [.ref kthis_p, .ref kthis_rates, .ref kthis_ladder, .ref kthis_lengths, .ref kthis_flows, .int v0_phases, .ref kthis_now, .ref kthis_trial, .int v0_has, .int T.2]))] (va_A [(h0, .inr (10, [.ref kthis_p, .ref kthis_rates, .ref kthis_ladder, .ref kthis_lengths, .ref kthis_flows, .int v0_phases, .ref kthis_now, .ref kthis_trial, .int v0_has, .int v0_thrown]))] sz)) 0 0 (va_A [(h0, .inr (10, [.ref kthis_p, .ref kthis_rates, .ref kthis_ladder, .ref kthis_lengths, .ref kthis_flows, .int v0_phases, .ref kthis_now, .ref kthis_trial, .int v0_has, .int v0_thrown]))] sz) := by
  refine metW (own := RX10) (by decide) rfl (Nat.le_of_ble_eq_true rfl) ?_
  intro p e s m below meth c S hr hlk hP hK A hAe hD hA hS ls hl
  clear hAe
  have hx := S.1
  have hb := S.2.1
  have hl : lv_has ls 3 [(0, .ref h0), (1, .long p0)] := hl
  refine lv_aload_n hx hb dX10_told_0 rfl (lv_at hl 0 rfl) ?_
  refine lv_aload_n hx hb dX10_told_1 rfl (lv_at hl 0 rfl) ?_
  refine gf_X10_53 (v := .int v0_has) S hK hP 0 rfl rfl dX10_told_2 ?_
  refine lv_if_eq (tgt := 12) hx hb dX10_told_5 (by decide) (fun c1 => ?_) (fun c1 => ?_)
  · have h := iteP c1 h
    refine lv_iconst (v := 1) hx hb dX10_told_12 li_1 ?_
    refine pf_X10_33 (v := .int 1) S hK hP hD hS 0 rfl (Nat.le_of_ble_eq_true rfl) rfl dX10_told_13 (fun H locs hP hD hS => ?_)
    have hP : va_P D vwCl [(h0, .inr (10, [.ref kthis_p, .ref kthis_rates, .ref kthis_ladder, .ref kthis_lengths, .ref kthis_flows, .int v0_phases, .ref kthis_now, .ref kthis_trial, .int v0_has, .int 1]))] H := hP
    have hD : va_D A [(h0, .inr (10, [.ref kthis_p, .ref kthis_rates, .ref kthis_ladder, .ref kthis_lengths, .ref kthis_flows, .int v0_phases, .ref kthis_now, .ref kthis_trial, .int v0_has, .int 1]))] := hD
    refine lv_aload_n hx hb dX10_told_16 rfl (lv_at hl 0 rfl) ?_
    refine gf_X10_53 (v := .int v0_has) S hK hP 0 rfl rfl dX10_told_17 ?_
    refine lv_if_eq (tgt := 27) hx hb dX10_told_20 (by decide) (fun c2 => ?_) (fun c2 => ?_)
    · have h := iteP c2 h
      refine lv_lconst (v := 0) hx hb dX10_told_27 rfl ?_
      subst h
      exact wRl S hr hlk (hP.sub [0] rfl) (hD.sub [0] (by decide) rfl) hS dX10_told_28
    · have h := iteN c2 h
      refine lv_lload_n hx hb dX10_told_23 rfl (lv_at hl 1 rfl) ?_
      refine lv_goto (tgt := 28) hx hb dX10_told_24 (by decide) ?_
      subst h
      exact wRl S hr hlk (hP.sub [0] rfl) (hD.sub [0] (by decide) rfl) hS dX10_told_28
  · have h := iteN c1 h
    refine lv_iconst (v := 0) hx hb dX10_told_8 li_0 ?_
    refine lv_goto (tgt := 13) hx hb dX10_told_9 (by decide) ?_
    refine pf_X10_33 (v := .int 0) S hK hP hD hS 0 rfl (Nat.le_of_ble_eq_true rfl) rfl dX10_told_13 (fun H locs hP hD hS => ?_)
    have hP : va_P D vwCl [(h0, .inr (10, [.ref kthis_p, .ref kthis_rates, .ref kthis_ladder, .ref kthis_lengths, .ref kthis_flows, .int v0_phases, .ref kthis_now, .ref kthis_trial, .int v0_has, .int 0]))] H := hP
    have hD : va_D A [(h0, .inr (10, [.ref kthis_p, .ref kthis_rates, .ref kthis_ladder, .ref kthis_lengths, .ref kthis_flows, .int v0_phases, .ref kthis_now, .ref kthis_trial, .int v0_has, .int 0]))] := hD
    refine lv_aload_n hx hb dX10_told_16 rfl (lv_at hl 0 rfl) ?_
    refine gf_X10_53 (v := .int v0_has) S hK hP 0 rfl rfl dX10_told_17 ?_
    refine lv_if_eq (tgt := 27) hx hb dX10_told_20 (by decide) (fun c3 => ?_) (fun c3 => ?_)
    · have h := iteP c3 h
      refine lv_lconst (v := 0) hx hb dX10_told_27 rfl ?_
      subst h
      exact wRl S hr hlk (hP.sub [0] rfl) (hD.sub [0] (by decide) rfl) hS dX10_told_28
    · have h := iteN c3 h
      refine lv_lload_n hx hb dX10_told_23 rfl (lv_at hl 1 rfl) ?_
      refine lv_goto (tgt := 28) hx hb dX10_told_24 (by decide) ?_
      subst h
      exact wRl S hr hlk (hP.sub [0] rfl) (hD.sub [0] (by decide) rfl) hS dX10_told_28
abbrev rm_X10_time : Room := { frames := 1, cells := 0, slots := 0, locals := 22 }
theorem dX10_time_0 : decode cX10_time 0 = .ok (.aload_n 0, 1) := by decide +kernel
theorem dX10_time_1 : decode cX10_time 1 = .ok (.aload_n 0, 1) := by decide +kernel
theorem dX10_time_2 : decode cX10_time 2 = .ok (.getfield 25, 3) := by decide +kernel
theorem dX10_time_5 : decode cX10_time 5 = .ok (.iconst 0, 1) := by decide +kernel
theorem dX10_time_6 : decode cX10_time 6 = .ok (.laload, 1) := by decide +kernel
theorem dX10_time_7 : decode cX10_time 7 = .ok (.invokevirtual 179, 3) := by decide +kernel
theorem dX10_time_10 : decode cX10_time 10 = .ok (.l2i, 1) := by decide +kernel
theorem dX10_time_11 : decode cX10_time 11 = .ok (.ireturn, 1) := by decide +kernel
theorem cw_X10_179 {R : Room} {s : State} {args : Array Value} (hts : ∀ w ∈ TB, w.before args s = true) (hR : rm_X10_told.frames + 1 ≤ R.frames ∧ 8 + (3 + 11) + rm_X10_told.locals ≤ R.locals) : CallW R s args RX10 RX10 179 yX10_told cX10_told 3 (some .long) (Cond.code yX10_told cX10_told 3 (some .long) :: TB) rm_X10_told 0 0 1 := cwV 1 hts (gV tb1137 tb1138 tb39 tb57 tb1139) rfl rfl rfl ⟨rfl, by decide, by decide, by decide +kernel⟩ hR
def f_X10_time (v0_has : Int32) (r1 : Nat → Int64) : Int32 × Int32 :=
  bnd2 (f_X10_told v0_has (r1 0)) fun (z1 : Int64) (y2 : Int32) =>
  (z1.toInt32, y2)
set_option maxHeartbeats 4000000 in
set_option maxRecDepth 100000 in
theorem c_X10_time (l : Launch) (D : va_G) (cI cJ cC : ClassId) (h0 h1 kthis_p kthis_rates kthis_ladder kthis_lengths kthis_flows kthis_trial : Nat) (v0_phases v0_has v0_thrown : Int32) (r1 : Nat → Int64) (sz : Nat)  (T : Int32 × Int32) (h : f_X10_time v0_has r1 = T) : Met l yX10_time (Cond.code yX10_time cX10_time 1 (some .int) :: TB) rm_X10_time (PreW D cI cJ cC [(h0, .inr (10, [.ref kthis_p, .ref kthis_rates, .ref kthis_ladder, .ref kthis_lengths, .ref kthis_flows, .int v0_phases, .ref h1, .ref kthis_trial, .int v0_has, .int v0_thrown])), (h1, .inl (cJ, 760, .inr (.inl r1)))] sz [.ref h0]) (QW (some (.int T.1)) D [(h0, .inr (10, [.ref kthis_p, .ref kthis_rates, .ref kthis_ladder, .ref kthis_lengths, .ref kthis_flows, .int v0_phases, .ref h1, .ref kthis_trial, .int v0_has, .int T.2])), (h1, .inl (cJ, 760, .inr (.inl r1)))] (va_A [(h0, .inr (10, [.ref kthis_p, .ref kthis_rates, .ref kthis_ladder, .ref kthis_lengths, .ref kthis_flows, .int v0_phases, .ref h1, .ref kthis_trial, .int v0_has, .int v0_thrown])), (h1, .inl (cJ, 760, .inr (.inl r1)))] sz)) 0 0 (va_A [(h0, .inr (10, [.ref kthis_p, .ref kthis_rates, .ref kthis_ladder, .ref kthis_lengths, .ref kthis_flows, .int v0_phases, .ref h1, .ref kthis_trial, .int v0_has, .int v0_thrown])), (h1, .inl (cJ, 760, .inr (.inl r1)))] sz) := by
  refine metW (own := RX10) (by decide) rfl (Nat.le_of_ble_eq_true rfl) ?_
  intro p e s m below meth c S hr hlk hP hK A hAe hD hA hS ls hl
  clear hAe
  have hx := S.1
  have hb := S.2.1
  have hl : lv_has ls 1 [(0, .ref h0)] := hl
  refine lv_aload_n hx hb dX10_time_0 rfl (lv_at hl 0 rfl) ?_
  refine lv_aload_n hx hb dX10_time_1 rfl (lv_at hl 0 rfl) ?_
  refine gf_X10_25 (v := .ref h1) S hK hP 0 rfl rfl dX10_time_2 ?_
  refine lv_iconst (v := 0) hx hb dX10_time_5 li_0 ?_
  refine aldJ (k := 0) (q0 := 1) S hK hP rfl vl_0_760 tn_0 dX10_time_6 ?_
  obtain ⟨z1, y2, e_z1⟩ : ∃ a0 a1, f_X10_told v0_has (r1 0) = (a0, a1) := ⟨_, _, rfl⟩
  have h := bnd2_eq e_z1 h
  refine wrV (pc1 := 10) (rest := []) (st1 := [.long z1]) (wr := [(h1, .inl (cJ, 760, .inr (.inl r1)))]) S (c_X10_told l D cI cJ cC h0 kthis_p kthis_rates kthis_ladder kthis_lengths kthis_flows h1 kthis_trial v0_phases v0_has v0_thrown s.heap.size (r1 0) (z1, y2) e_z1) (cw_X10_179 S.2.2.2.2 ⟨Nat.le_of_ble_eq_true rfl, Nat.le_of_ble_eq_true rfl⟩) hK hP hD hS hA [0] [1] rfl rfl rfl (by decide) (by decide) (by decide) rfl rfl rfl rfl hl.1 rfl (Nat.le_of_ble_eq_true rfl) ⟨Nat.zero_le _, Nat.zero_le _⟩ rfl rfl dX10_time_7 (fun H locs hP hD hS => ?_)
  have hP : va_P D vwCl [(h1, .inl (cJ, 760, .inr (.inl r1))), (h0, .inr (10, [.ref kthis_p, .ref kthis_rates, .ref kthis_ladder, .ref kthis_lengths, .ref kthis_flows, .int v0_phases, .ref h1, .ref kthis_trial, .int v0_has, .int y2]))] H := hP
  have hD : va_D A [(h1, .inl (cJ, 760, .inr (.inl r1))), (h0, .inr (10, [.ref kthis_p, .ref kthis_rates, .ref kthis_ladder, .ref kthis_lengths, .ref kthis_flows, .int v0_phases, .ref h1, .ref kthis_trial, .int v0_has, .int y2]))] := hD
  refine lv_l2i hx hb dX10_time_10 rfl ?_
  subst h
  exact wRi S hr hlk (hP.sub [1, 0] rfl) (hD.sub [1, 0] (by decide) rfl) hS dX10_time_11
abbrev rm_X10_position : Room := { frames := 1, cells := 0, slots := 0, locals := 22 }
theorem dX10_position_0 : decode cX10_position 0 = .ok (.aload_n 0, 1) := by decide +kernel
theorem dX10_position_1 : decode cX10_position 1 = .ok (.aload_n 0, 1) := by decide +kernel
theorem dX10_position_2 : decode cX10_position 2 = .ok (.getfield 25, 3) := by decide +kernel
theorem dX10_position_5 : decode cX10_position 5 = .ok (.iconst 1, 1) := by decide +kernel
theorem dX10_position_6 : decode cX10_position 6 = .ok (.laload, 1) := by decide +kernel
theorem dX10_position_7 : decode cX10_position 7 = .ok (.invokevirtual 179, 3) := by decide +kernel
theorem dX10_position_10 : decode cX10_position 10 = .ok (.l2i, 1) := by decide +kernel
theorem dX10_position_11 : decode cX10_position 11 = .ok (.ireturn, 1) := by decide +kernel
def f_X10_position (v0_has : Int32) (r1 : Nat → Int64) : Int32 × Int32 :=
  bnd2 (f_X10_told v0_has (r1 1)) fun (z1 : Int64) (y2 : Int32) =>
  (z1.toInt32, y2)
set_option maxHeartbeats 4000000 in
set_option maxRecDepth 100000 in
theorem c_X10_position (l : Launch) (D : va_G) (cI cJ cC : ClassId) (h0 h1 kthis_p kthis_rates kthis_ladder kthis_lengths kthis_flows kthis_trial : Nat) (v0_phases v0_has v0_thrown : Int32) (r1 : Nat → Int64) (sz : Nat)  (T : Int32 × Int32) (h : f_X10_position v0_has r1 = T) : Met l yX10_position (Cond.code yX10_position cX10_position 1 (some .int) :: TB) rm_X10_position (PreW D cI cJ cC [(h0, .inr (10, [.ref kthis_p, .ref kthis_rates, .ref kthis_ladder, .ref kthis_lengths, .ref kthis_flows, .int v0_phases, .ref h1, .ref kthis_trial, .int v0_has, .int v0_thrown])), (h1, .inl (cJ, 760, .inr (.inl r1)))] sz [.ref h0]) (QW (some (.int T.1)) D [(h0, .inr (10, [.ref kthis_p, .ref kthis_rates, .ref kthis_ladder, .ref kthis_lengths, .ref kthis_flows, .int v0_phases, .ref h1, .ref kthis_trial, .int v0_has, .int T.2])), (h1, .inl (cJ, 760, .inr (.inl r1)))] (va_A [(h0, .inr (10, [.ref kthis_p, .ref kthis_rates, .ref kthis_ladder, .ref kthis_lengths, .ref kthis_flows, .int v0_phases, .ref h1, .ref kthis_trial, .int v0_has, .int v0_thrown])), (h1, .inl (cJ, 760, .inr (.inl r1)))] sz)) 0 0 (va_A [(h0, .inr (10, [.ref kthis_p, .ref kthis_rates, .ref kthis_ladder, .ref kthis_lengths, .ref kthis_flows, .int v0_phases, .ref h1, .ref kthis_trial, .int v0_has, .int v0_thrown])), (h1, .inl (cJ, 760, .inr (.inl r1)))] sz) := by
  refine metW (own := RX10) (by decide) rfl (Nat.le_of_ble_eq_true rfl) ?_
  intro p e s m below meth c S hr hlk hP hK A hAe hD hA hS ls hl
  clear hAe
  have hx := S.1
  have hb := S.2.1
  have hl : lv_has ls 1 [(0, .ref h0)] := hl
  refine lv_aload_n hx hb dX10_position_0 rfl (lv_at hl 0 rfl) ?_
  refine lv_aload_n hx hb dX10_position_1 rfl (lv_at hl 0 rfl) ?_
  refine gf_X10_25 (v := .ref h1) S hK hP 0 rfl rfl dX10_position_2 ?_
  refine lv_iconst (v := 1) hx hb dX10_position_5 li_1 ?_
  refine aldJ (k := 1) (q0 := 1) S hK hP rfl vl_1_760 tn_1 dX10_position_6 ?_
  obtain ⟨z1, y2, e_z1⟩ : ∃ a0 a1, f_X10_told v0_has (r1 1) = (a0, a1) := ⟨_, _, rfl⟩
  have h := bnd2_eq e_z1 h
  refine wrV (pc1 := 10) (rest := []) (st1 := [.long z1]) (wr := [(h1, .inl (cJ, 760, .inr (.inl r1)))]) S (c_X10_told l D cI cJ cC h0 kthis_p kthis_rates kthis_ladder kthis_lengths kthis_flows h1 kthis_trial v0_phases v0_has v0_thrown s.heap.size (r1 1) (z1, y2) e_z1) (cw_X10_179 S.2.2.2.2 ⟨Nat.le_of_ble_eq_true rfl, Nat.le_of_ble_eq_true rfl⟩) hK hP hD hS hA [0] [1] rfl rfl rfl (by decide) (by decide) (by decide) rfl rfl rfl rfl hl.1 rfl (Nat.le_of_ble_eq_true rfl) ⟨Nat.zero_le _, Nat.zero_le _⟩ rfl rfl dX10_position_7 (fun H locs hP hD hS => ?_)
  have hP : va_P D vwCl [(h1, .inl (cJ, 760, .inr (.inl r1))), (h0, .inr (10, [.ref kthis_p, .ref kthis_rates, .ref kthis_ladder, .ref kthis_lengths, .ref kthis_flows, .int v0_phases, .ref h1, .ref kthis_trial, .int v0_has, .int y2]))] H := hP
  have hD : va_D A [(h1, .inl (cJ, 760, .inr (.inl r1))), (h0, .inr (10, [.ref kthis_p, .ref kthis_rates, .ref kthis_ladder, .ref kthis_lengths, .ref kthis_flows, .int v0_phases, .ref h1, .ref kthis_trial, .int v0_has, .int y2]))] := hD
  refine lv_l2i hx hb dX10_position_10 rfl ?_
  subst h
  exact wRi S hr hlk (hP.sub [1, 0] rfl) (hD.sub [1, 0] (by decide) rfl) hS dX10_position_11
abbrev rm_X10_isWrong : Room := { frames := 0, cells := 0, slots := 0, locals := 0 }
theorem dX10_isWrong_0 : decode cX10_isWrong 0 = .ok (.aload_n 0, 1) := by decide +kernel
theorem dX10_isWrong_1 : decode cX10_isWrong 1 = .ok (.iload_n 1, 1) := by decide +kernel
theorem dX10_isWrong_2 : decode cX10_isWrong 2 = .ok (.ifCond .ne 7, 3) := by decide +kernel
theorem dX10_isWrong_5 : decode cX10_isWrong 5 = .ok (.iconst 1, 1) := by decide +kernel
theorem dX10_isWrong_6 : decode cX10_isWrong 6 = .ok (.goto 15, 3) := by decide +kernel
theorem dX10_isWrong_9 : decode cX10_isWrong 9 = .ok (.aload_n 0, 1) := by decide +kernel
theorem dX10_isWrong_10 : decode cX10_isWrong 10 = .ok (.getfield 53, 3) := by decide +kernel
theorem dX10_isWrong_13 : decode cX10_isWrong 13 = .ok (.ifCond .eq 7, 3) := by decide +kernel
theorem dX10_isWrong_16 : decode cX10_isWrong 16 = .ok (.iconst 0, 1) := by decide +kernel
theorem dX10_isWrong_17 : decode cX10_isWrong 17 = .ok (.goto 4, 3) := by decide +kernel
theorem dX10_isWrong_20 : decode cX10_isWrong 20 = .ok (.iconst 2, 1) := by decide +kernel
theorem dX10_isWrong_21 : decode cX10_isWrong 21 = .ok (.putfield 33, 3) := by decide +kernel
theorem dX10_isWrong_24 : decode cX10_isWrong 24 = .ok (.aload_n 0, 1) := by decide +kernel
theorem dX10_isWrong_25 : decode cX10_isWrong 25 = .ok (.getfield 33, 3) := by decide +kernel
theorem dX10_isWrong_28 : decode cX10_isWrong 28 = .ok (.ifCond .eq 7, 3) := by decide +kernel
theorem dX10_isWrong_31 : decode cX10_isWrong 31 = .ok (.iconst 1, 1) := by decide +kernel
theorem dX10_isWrong_32 : decode cX10_isWrong 32 = .ok (.goto 4, 3) := by decide +kernel
theorem dX10_isWrong_35 : decode cX10_isWrong 35 = .ok (.iconst 0, 1) := by decide +kernel
theorem dX10_isWrong_36 : decode cX10_isWrong 36 = .ok (.ireturn, 1) := by decide +kernel
def f_X10_isWrong (v0_has p0 : Int32) : Int32 × Int32 :=
  if p0 = 0 then
    (1, 1)
  else
    if v0_has = 0 then
      (1, 2)
    else
      (0, 0)
set_option maxHeartbeats 4000000 in
set_option maxRecDepth 100000 in
theorem c_X10_isWrong (l : Launch) (D : va_G) (cI cJ cC : ClassId) (h0 kthis_p kthis_rates kthis_ladder kthis_lengths kthis_flows kthis_now kthis_trial : Nat) (v0_phases v0_has v0_thrown : Int32) (sz : Nat) (p0 : Int32) (T : Int32 × Int32) (h : f_X10_isWrong v0_has p0 = T) : Met l yX10_isWrong (Cond.code yX10_isWrong cX10_isWrong 2 (some .boolean) :: TB) rm_X10_isWrong (PreW D cI cJ cC [(h0, .inr (10, [.ref kthis_p, .ref kthis_rates, .ref kthis_ladder, .ref kthis_lengths, .ref kthis_flows, .int v0_phases, .ref kthis_now, .ref kthis_trial, .int v0_has, .int v0_thrown]))] sz [.ref h0, .int p0]) (QW (some (.int T.1)) D [(h0, .inr (10, [.ref kthis_p, .ref kthis_rates, .ref kthis_ladder, .ref kthis_lengths, .ref kthis_flows, .int v0_phases, .ref kthis_now, .ref kthis_trial, .int v0_has, .int T.2]))] (va_A [(h0, .inr (10, [.ref kthis_p, .ref kthis_rates, .ref kthis_ladder, .ref kthis_lengths, .ref kthis_flows, .int v0_phases, .ref kthis_now, .ref kthis_trial, .int v0_has, .int v0_thrown]))] sz)) 0 0 (va_A [(h0, .inr (10, [.ref kthis_p, .ref kthis_rates, .ref kthis_ladder, .ref kthis_lengths, .ref kthis_flows, .int v0_phases, .ref kthis_now, .ref kthis_trial, .int v0_has, .int v0_thrown]))] sz) := by
  refine metW (own := RX10) (by decide) rfl (Nat.le_of_ble_eq_true rfl) ?_
  intro p e s m below meth c S hr hlk hP hK A hAe hD hA hS ls hl
  clear hAe
  have hx := S.1
  have hb := S.2.1
  have hl : lv_has ls 2 [(0, .ref h0), (1, .int p0)] := hl
  refine lv_aload_n hx hb dX10_isWrong_0 rfl (lv_at hl 0 rfl) ?_
  refine lv_iload_n hx hb dX10_isWrong_1 rfl (lv_at hl 1 rfl) ?_
  refine lv_if_ne (tgt := 9) hx hb dX10_isWrong_2 (by decide) (fun c1 => ?_) (fun c1 => ?_)
  · have h := iteN c1 h
    refine lv_aload_n hx hb dX10_isWrong_9 rfl (lv_at hl 0 rfl) ?_
    refine gf_X10_53 (v := .int v0_has) S hK hP 0 rfl rfl dX10_isWrong_10 ?_
    refine lv_if_eq (tgt := 20) hx hb dX10_isWrong_13 (by decide) (fun c2 => ?_) (fun c2 => ?_)
    · have h := iteP c2 h
      refine lv_iconst (v := 2) hx hb dX10_isWrong_20 li_2 ?_
      refine pf_X10_33 (v := .int 2) S hK hP hD hS 0 rfl (Nat.le_of_ble_eq_true rfl) rfl dX10_isWrong_21 (fun H locs hP hD hS => ?_)
      have hP : va_P D vwCl [(h0, .inr (10, [.ref kthis_p, .ref kthis_rates, .ref kthis_ladder, .ref kthis_lengths, .ref kthis_flows, .int v0_phases, .ref kthis_now, .ref kthis_trial, .int v0_has, .int 2]))] H := hP
      have hD : va_D A [(h0, .inr (10, [.ref kthis_p, .ref kthis_rates, .ref kthis_ladder, .ref kthis_lengths, .ref kthis_flows, .int v0_phases, .ref kthis_now, .ref kthis_trial, .int v0_has, .int 2]))] := hD
      refine lv_aload_n hx hb dX10_isWrong_24 rfl (lv_at hl 0 rfl) ?_
      refine gf_X10_33 (v := .int 2) S hK hP 0 rfl rfl dX10_isWrong_25 ?_
      refine lv_if_eq (tgt := 35) hx hb dX10_isWrong_28 (by decide) (fun c9 => absurd c9 (by decide)) (fun _ => ?_)
      refine lv_iconst (v := 1) hx hb dX10_isWrong_31 li_1 ?_
      refine lv_goto (tgt := 36) hx hb dX10_isWrong_32 (by decide) ?_
      subst h
      exact wRz S hr hlk (by decide) (hP.sub [0] rfl) (hD.sub [0] (by decide) rfl) hS dX10_isWrong_36
    · have h := iteN c2 h
      refine lv_iconst (v := 0) hx hb dX10_isWrong_16 li_0 ?_
      refine lv_goto (tgt := 21) hx hb dX10_isWrong_17 (by decide) ?_
      refine pf_X10_33 (v := .int 0) S hK hP hD hS 0 rfl (Nat.le_of_ble_eq_true rfl) rfl dX10_isWrong_21 (fun H locs hP hD hS => ?_)
      have hP : va_P D vwCl [(h0, .inr (10, [.ref kthis_p, .ref kthis_rates, .ref kthis_ladder, .ref kthis_lengths, .ref kthis_flows, .int v0_phases, .ref kthis_now, .ref kthis_trial, .int v0_has, .int 0]))] H := hP
      have hD : va_D A [(h0, .inr (10, [.ref kthis_p, .ref kthis_rates, .ref kthis_ladder, .ref kthis_lengths, .ref kthis_flows, .int v0_phases, .ref kthis_now, .ref kthis_trial, .int v0_has, .int 0]))] := hD
      refine lv_aload_n hx hb dX10_isWrong_24 rfl (lv_at hl 0 rfl) ?_
      refine gf_X10_33 (v := .int 0) S hK hP 0 rfl rfl dX10_isWrong_25 ?_
      refine lv_if_eq (tgt := 35) hx hb dX10_isWrong_28 (by decide) (fun _ => ?_) (fun c9 => absurd (by decide) c9)
      refine lv_iconst (v := 0) hx hb dX10_isWrong_35 li_0 ?_
      subst h
      exact wRz S hr hlk (by decide) (hP.sub [0] rfl) (hD.sub [0] (by decide) rfl) hS dX10_isWrong_36
  · have h := iteP c1 h
    refine lv_iconst (v := 1) hx hb dX10_isWrong_5 li_1 ?_
    refine lv_goto (tgt := 21) hx hb dX10_isWrong_6 (by decide) ?_
    refine pf_X10_33 (v := .int 1) S hK hP hD hS 0 rfl (Nat.le_of_ble_eq_true rfl) rfl dX10_isWrong_21 (fun H locs hP hD hS => ?_)
    have hP : va_P D vwCl [(h0, .inr (10, [.ref kthis_p, .ref kthis_rates, .ref kthis_ladder, .ref kthis_lengths, .ref kthis_flows, .int v0_phases, .ref kthis_now, .ref kthis_trial, .int v0_has, .int 1]))] H := hP
    have hD : va_D A [(h0, .inr (10, [.ref kthis_p, .ref kthis_rates, .ref kthis_ladder, .ref kthis_lengths, .ref kthis_flows, .int v0_phases, .ref kthis_now, .ref kthis_trial, .int v0_has, .int 1]))] := hD
    refine lv_aload_n hx hb dX10_isWrong_24 rfl (lv_at hl 0 rfl) ?_
    refine gf_X10_33 (v := .int 1) S hK hP 0 rfl rfl dX10_isWrong_25 ?_
    refine lv_if_eq (tgt := 35) hx hb dX10_isWrong_28 (by decide) (fun c9 => absurd c9 (by decide)) (fun _ => ?_)
    refine lv_iconst (v := 1) hx hb dX10_isWrong_31 li_1 ?_
    refine lv_goto (tgt := 36) hx hb dX10_isWrong_32 (by decide) ?_
    subst h
    exact wRz S hr hlk (by decide) (hP.sub [0] rfl) (hD.sub [0] (by decide) rfl) hS dX10_isWrong_36
abbrev rm_X10_buffer : Room := { frames := 1, cells := 0, slots := 0, locals := 25 }
theorem dX10_buffer_0 : decode cX10_buffer 0 = .ok (.aload_n 0, 1) := by decide +kernel
theorem dX10_buffer_1 : decode cX10_buffer 1 = .ok (.iload_n 1, 1) := by decide +kernel
theorem dX10_buffer_2 : decode cX10_buffer 2 = .ok (.i2l, 1) := by decide +kernel
theorem dX10_buffer_3 : decode cX10_buffer 3 = .ok (.lconst 0, 1) := by decide +kernel
theorem dX10_buffer_4 : decode cX10_buffer 4 = .ok (.lconst 1, 1) := by decide +kernel
theorem dX10_buffer_5 : decode cX10_buffer 5 = .ok (.invokestatic 39, 3) := by decide +kernel
theorem dX10_buffer_8 : decode cX10_buffer 8 = .ok (.invokevirtual 183, 3) := by decide +kernel
theorem dX10_buffer_11 : decode cX10_buffer 11 = .ok (.ifCond .ne 12, 3) := by decide +kernel
theorem dX10_buffer_14 : decode cX10_buffer 14 = .ok (.aload_n 0, 1) := by decide +kernel
theorem dX10_buffer_15 : decode cX10_buffer 15 = .ok (.getfield 16, 3) := by decide +kernel
theorem dX10_buffer_18 : decode cX10_buffer 18 = .ok (.iload_n 1, 1) := by decide +kernel
theorem dX10_buffer_19 : decode cX10_buffer 19 = .ok (.iaload, 1) := by decide +kernel
theorem dX10_buffer_20 : decode cX10_buffer 20 = .ok (.ifCond .ne 7, 3) := by decide +kernel
theorem dX10_buffer_23 : decode cX10_buffer 23 = .ok (.iconst 0, 1) := by decide +kernel
theorem dX10_buffer_24 : decode cX10_buffer 24 = .ok (.goto 13, 3) := by decide +kernel
theorem dX10_buffer_27 : decode cX10_buffer 27 = .ok (.aload_n 0, 1) := by decide +kernel
theorem dX10_buffer_28 : decode cX10_buffer 28 = .ok (.aload_n 0, 1) := by decide +kernel
theorem dX10_buffer_29 : decode cX10_buffer 29 = .ok (.getfield 25, 3) := by decide +kernel
theorem dX10_buffer_32 : decode cX10_buffer 32 = .ok (.iload_n 1, 1) := by decide +kernel
theorem dX10_buffer_33 : decode cX10_buffer 33 = .ok (.invokevirtual 88, 3) := by decide +kernel
theorem dX10_buffer_36 : decode cX10_buffer 36 = .ok (.l2i, 1) := by decide +kernel
theorem dX10_buffer_37 : decode cX10_buffer 37 = .ok (.ireturn, 1) := by decide +kernel
theorem cw_X10_183 {R : Room} {s : State} {args : Array Value} (hts : ∀ w ∈ TB, w.before args s = true) (hR : rm_X10_isWrong.frames + 1 ≤ R.frames ∧ 8 + (2 + 11) + rm_X10_isWrong.locals ≤ R.locals) : CallW R s args RX10 RX10 183 yX10_isWrong cX10_isWrong 2 (some .boolean) (Cond.code yX10_isWrong cX10_isWrong 2 (some .boolean) :: TB) rm_X10_isWrong 0 0 1 := cwV 1 hts (gV tb1148 tb1149 tb40 tb57 tb1150) rfl rfl rfl ⟨rfl, by decide, by decide, by decide +kernel⟩ hR
def f_X10_buffer (v0_has : Int32) (r1 : Nat → Int32) (r2 : Nat → Int64) (r3 : Nat → Int32) (p0 : Int32) : Option (Int32 × Int32) :=
  bnd2 (f_X10_isWrong v0_has (f_X10_in p0.toInt64 0 1)) fun (y1 : Int32) (y2 : Int32) =>
  if y1 = 0 then
    grd (vin p0 2) <|
    if (r1 p0.toNatClampNeg) = 0 then
      some (0, y2)
    else
      obnd (f_X10_bufferOf r3 r2 p0) fun (z6 : Int64) =>
      some (z6.toInt32, y2)
  else
    some (0, y2)
set_option maxHeartbeats 4000000 in
set_option maxRecDepth 100000 in
theorem c_X10_buffer (l : Launch) (D : va_G) (cI cJ cC : ClassId) (h0 h1 h2 h3 kthis_rates kthis_lengths kthis_flows kthis_trial : Nat) (v0_phases v0_has v0_thrown : Int32) (r1 : Nat → Int32) (r2 : Nat → Int64) (r3 : Nat → Int32) (sz : Nat) (p0 : Int32) (T : Int32 × Int32) (h : f_X10_buffer v0_has r1 r2 r3 p0 = some T) : Met l yX10_buffer (Cond.code yX10_buffer cX10_buffer 2 (some .int) :: TB) rm_X10_buffer (PreW D cI cJ cC [(h0, .inr (10, [.ref h3, .ref kthis_rates, .ref h1, .ref kthis_lengths, .ref kthis_flows, .int v0_phases, .ref h2, .ref kthis_trial, .int v0_has, .int v0_thrown])), (h1, .inl (cI, 2, .inl r1)), (h2, .inl (cJ, 760, .inr (.inl r2))), (h3, .inl (cI, 15, .inl r3))] sz [.ref h0, .int p0]) (QW (some (.int T.1)) D [(h0, .inr (10, [.ref h3, .ref kthis_rates, .ref h1, .ref kthis_lengths, .ref kthis_flows, .int v0_phases, .ref h2, .ref kthis_trial, .int v0_has, .int T.2])), (h1, .inl (cI, 2, .inl r1)), (h2, .inl (cJ, 760, .inr (.inl r2))), (h3, .inl (cI, 15, .inl r3))] (va_A [(h0, .inr (10, [.ref h3, .ref kthis_rates, .ref h1, .ref kthis_lengths, .ref kthis_flows, .int v0_phases, .ref h2, .ref kthis_trial, .int v0_has, .int v0_thrown])), (h1, .inl (cI, 2, .inl r1)), (h2, .inl (cJ, 760, .inr (.inl r2))), (h3, .inl (cI, 15, .inl r3))] sz)) 0 0 (va_A [(h0, .inr (10, [.ref h3, .ref kthis_rates, .ref h1, .ref kthis_lengths, .ref kthis_flows, .int v0_phases, .ref h2, .ref kthis_trial, .int v0_has, .int v0_thrown])), (h1, .inl (cI, 2, .inl r1)), (h2, .inl (cJ, 760, .inr (.inl r2))), (h3, .inl (cI, 15, .inl r3))] sz) := by
  refine metW (own := RX10) (by decide) rfl (Nat.le_of_ble_eq_true rfl) ?_
  intro p e s m below meth c S hr hlk hP hK A hAe hD hA hS ls hl
  clear hAe
  have hx := S.1
  have hb := S.2.1
  have hl : lv_has ls 2 [(0, .ref h0), (1, .int p0)] := hl
  refine lv_aload_n hx hb dX10_buffer_0 rfl (lv_at hl 0 rfl) ?_
  refine lv_iload_n hx hb dX10_buffer_1 rfl (lv_at hl 1 rfl) ?_
  refine lv_i2l hx hb dX10_buffer_2 rfl ?_
  refine lv_lconst (v := 0) hx hb dX10_buffer_3 rfl ?_
  refine lv_lconst (v := 1) hx hb dX10_buffer_4 rfl ?_
  refine rdS (pc1 := 8) (rest := [.ref h0]) (st1 := [.int (f_X10_in p0.toInt64 0 1), .ref h0]) S (c_X10_in l D cI cJ cC  p0.toInt64 0 1 _ rfl) (cw_X10_39 S.2.2.2.2 ⟨Nat.le_of_ble_eq_true rfl, Nat.le_of_ble_eq_true rfl⟩) hK (hP.sub [] rfl) rfl hl.1 rfl (Nat.le_of_ble_eq_true rfl) ⟨Nat.zero_le _, Nat.zero_le _⟩ rfl rfl dX10_buffer_5 ?_
  obtain ⟨y1, y2, e_y1⟩ : ∃ a0 a1, f_X10_isWrong v0_has (f_X10_in p0.toInt64 0 1) = (a0, a1) := ⟨_, _, rfl⟩
  have h := bnd2_eq e_y1 h
  refine wrV (pc1 := 11) (rest := []) (st1 := [.int y1]) (wr := [(h1, .inl (cI, 2, .inl r1)), (h2, .inl (cJ, 760, .inr (.inl r2))), (h3, .inl (cI, 15, .inl r3))]) S (c_X10_isWrong l D cI cJ cC h0 h3 kthis_rates h1 kthis_lengths kthis_flows h2 kthis_trial v0_phases v0_has v0_thrown s.heap.size (f_X10_in p0.toInt64 0 1) (y1, y2) e_y1) (cw_X10_183 S.2.2.2.2 ⟨Nat.le_of_ble_eq_true rfl, Nat.le_of_ble_eq_true rfl⟩) hK hP hD hS hA [0] [1, 2, 3] rfl rfl rfl (by decide) (by decide) (by decide) rfl rfl rfl rfl hl.1 rfl (Nat.le_of_ble_eq_true rfl) ⟨Nat.zero_le _, Nat.zero_le _⟩ rfl rfl dX10_buffer_8 (fun H locs hP hD hS => ?_)
  have hP : va_P D vwCl [(h1, .inl (cI, 2, .inl r1)), (h2, .inl (cJ, 760, .inr (.inl r2))), (h3, .inl (cI, 15, .inl r3)), (h0, .inr (10, [.ref h3, .ref kthis_rates, .ref h1, .ref kthis_lengths, .ref kthis_flows, .int v0_phases, .ref h2, .ref kthis_trial, .int v0_has, .int y2]))] H := hP
  have hD : va_D A [(h1, .inl (cI, 2, .inl r1)), (h2, .inl (cJ, 760, .inr (.inl r2))), (h3, .inl (cI, 15, .inl r3)), (h0, .inr (10, [.ref h3, .ref kthis_rates, .ref h1, .ref kthis_lengths, .ref kthis_flows, .int v0_phases, .ref h2, .ref kthis_trial, .int v0_has, .int y2]))] := hD
  refine lv_if_ne (tgt := 23) hx hb dX10_buffer_11 (by decide) (fun c3 => ?_) (fun c3 => ?_)
  · have h := iteN c3 h
    refine lv_iconst (v := 0) hx hb dX10_buffer_23 li_0 ?_
    refine lv_goto (tgt := 37) hx hb dX10_buffer_24 (by decide) ?_
    have h := Option.some.inj h
    subst h
    exact wRi S hr hlk (hP.sub [3, 0, 1, 2] rfl) (hD.sub [3, 0, 1, 2] (by decide) rfl) hS dX10_buffer_37
  · have h := iteP c3 h
    refine lv_aload_n hx hb dX10_buffer_14 rfl (lv_at hl 0 rfl) ?_
    refine gf_X10_16 (v := .ref h1) S hK hP 3 rfl rfl dX10_buffer_15 ?_
    refine lv_iload_n hx hb dX10_buffer_18 rfl (lv_at hl 1 rfl) ?_
    obtain ⟨g4, h⟩ := grd_eq h
    refine aldI (k := p0.toNatClampNeg) (q0 := 0) S hK hP rfl (vin_in g4) rfl dX10_buffer_19 ?_
    refine lv_if_ne (tgt := 27) hx hb dX10_buffer_20 (by decide) (fun c5 => ?_) (fun c5 => ?_)
    · have h := iteN c5 h
      refine lv_aload_n hx hb dX10_buffer_27 rfl (lv_at hl 0 rfl) ?_
      refine lv_aload_n hx hb dX10_buffer_28 rfl (lv_at hl 0 rfl) ?_
      refine gf_X10_25 (v := .ref h2) S hK hP 3 rfl rfl dX10_buffer_29 ?_
      refine lv_iload_n hx hb dX10_buffer_32 rfl (lv_at hl 1 rfl) ?_
      obtain ⟨z6, e_z6, h⟩ := obnd_eq h
      refine rdV (pc1 := 36) (rest := []) (st1 := [.long z6]) S (c_X10_bufferOf l D cI cJ cC h0 h3 h2 kthis_rates h1 kthis_lengths kthis_flows h2 kthis_trial v0_phases v0_has y2 r3 r2 p0 z6 e_z6) (cw_X10_88 S.2.2.2.2 ⟨Nat.le_of_ble_eq_true rfl, Nat.le_of_ble_eq_true rfl⟩) hK (hP.sub [3, 2, 1] rfl) rfl rfl rfl rfl hl.1 rfl (Nat.le_of_ble_eq_true rfl) ⟨Nat.zero_le _, Nat.zero_le _⟩ rfl rfl dX10_buffer_33 ?_
      refine lv_l2i hx hb dX10_buffer_36 rfl ?_
      have h := Option.some.inj h
      subst h
      exact wRi S hr hlk (hP.sub [3, 0, 1, 2] rfl) (hD.sub [3, 0, 1, 2] (by decide) rfl) hS dX10_buffer_37
    · have h := iteP c5 h
      refine lv_iconst (v := 0) hx hb dX10_buffer_23 li_0 ?_
      refine lv_goto (tgt := 37) hx hb dX10_buffer_24 (by decide) ?_
      have h := Option.some.inj h
      subst h
      exact wRi S hr hlk (hP.sub [3, 0, 1, 2] rfl) (hD.sub [3, 0, 1, 2] (by decide) rfl) hS dX10_buffer_37
abbrev rm_X10_downloaded : Room := { frames := 1, cells := 0, slots := 0, locals := 25 }
theorem dX10_downloaded_0 : decode cX10_downloaded 0 = .ok (.aload_n 0, 1) := by decide +kernel
theorem dX10_downloaded_1 : decode cX10_downloaded 1 = .ok (.iload_n 1, 1) := by decide +kernel
theorem dX10_downloaded_2 : decode cX10_downloaded 2 = .ok (.i2l, 1) := by decide +kernel
theorem dX10_downloaded_3 : decode cX10_downloaded 3 = .ok (.lconst 0, 1) := by decide +kernel
theorem dX10_downloaded_4 : decode cX10_downloaded 4 = .ok (.lconst 1, 1) := by decide +kernel
theorem dX10_downloaded_5 : decode cX10_downloaded 5 = .ok (.invokestatic 39, 3) := by decide +kernel
theorem dX10_downloaded_8 : decode cX10_downloaded 8 = .ok (.invokevirtual 183, 3) := by decide +kernel
theorem dX10_downloaded_11 : decode cX10_downloaded 11 = .ok (.ifCond .eq 7, 3) := by decide +kernel
theorem dX10_downloaded_14 : decode cX10_downloaded 14 = .ok (.iconst 0, 1) := by decide +kernel
theorem dX10_downloaded_15 : decode cX10_downloaded 15 = .ok (.goto 12, 3) := by decide +kernel
theorem dX10_downloaded_18 : decode cX10_downloaded 18 = .ok (.aload_n 0, 1) := by decide +kernel
theorem dX10_downloaded_19 : decode cX10_downloaded 19 = .ok (.getfield 25, 3) := by decide +kernel
theorem dX10_downloaded_22 : decode cX10_downloaded 22 = .ok (.iconst 3, 1) := by decide +kernel
theorem dX10_downloaded_23 : decode cX10_downloaded 23 = .ok (.iload_n 1, 1) := by decide +kernel
theorem dX10_downloaded_24 : decode cX10_downloaded 24 = .ok (.iadd, 1) := by decide +kernel
theorem dX10_downloaded_25 : decode cX10_downloaded 25 = .ok (.laload, 1) := by decide +kernel
theorem dX10_downloaded_26 : decode cX10_downloaded 26 = .ok (.l2i, 1) := by decide +kernel
theorem dX10_downloaded_27 : decode cX10_downloaded 27 = .ok (.ireturn, 1) := by decide +kernel
def f_X10_downloaded (v0_has : Int32) (r1 : Nat → Int64) (p0 : Int32) : Option (Int32 × Int32) :=
  bnd2 (f_X10_isWrong v0_has (f_X10_in p0.toInt64 0 1)) fun (y1 : Int32) (y2 : Int32) =>
  if y1 = 0 then
    grd (vin (3 + p0) 760) <|
    some ((r1 (3 + p0).toNatClampNeg).toInt32, y2)
  else
    some (0, y2)
set_option maxHeartbeats 4000000 in
set_option maxRecDepth 100000 in
theorem c_X10_downloaded (l : Launch) (D : va_G) (cI cJ cC : ClassId) (h0 h1 kthis_p kthis_rates kthis_ladder kthis_lengths kthis_flows kthis_trial : Nat) (v0_phases v0_has v0_thrown : Int32) (r1 : Nat → Int64) (sz : Nat) (p0 : Int32) (T : Int32 × Int32) (h : f_X10_downloaded v0_has r1 p0 = some T) : Met l yX10_downloaded (Cond.code yX10_downloaded cX10_downloaded 2 (some .int) :: TB) rm_X10_downloaded (PreW D cI cJ cC [(h0, .inr (10, [.ref kthis_p, .ref kthis_rates, .ref kthis_ladder, .ref kthis_lengths, .ref kthis_flows, .int v0_phases, .ref h1, .ref kthis_trial, .int v0_has, .int v0_thrown])), (h1, .inl (cJ, 760, .inr (.inl r1)))] sz [.ref h0, .int p0]) (QW (some (.int T.1)) D [(h0, .inr (10, [.ref kthis_p, .ref kthis_rates, .ref kthis_ladder, .ref kthis_lengths, .ref kthis_flows, .int v0_phases, .ref h1, .ref kthis_trial, .int v0_has, .int T.2])), (h1, .inl (cJ, 760, .inr (.inl r1)))] (va_A [(h0, .inr (10, [.ref kthis_p, .ref kthis_rates, .ref kthis_ladder, .ref kthis_lengths, .ref kthis_flows, .int v0_phases, .ref h1, .ref kthis_trial, .int v0_has, .int v0_thrown])), (h1, .inl (cJ, 760, .inr (.inl r1)))] sz)) 0 0 (va_A [(h0, .inr (10, [.ref kthis_p, .ref kthis_rates, .ref kthis_ladder, .ref kthis_lengths, .ref kthis_flows, .int v0_phases, .ref h1, .ref kthis_trial, .int v0_has, .int v0_thrown])), (h1, .inl (cJ, 760, .inr (.inl r1)))] sz) := by
  refine metW (own := RX10) (by decide) rfl (Nat.le_of_ble_eq_true rfl) ?_
  intro p e s m below meth c S hr hlk hP hK A hAe hD hA hS ls hl
  clear hAe
  have hx := S.1
  have hb := S.2.1
  have hl : lv_has ls 2 [(0, .ref h0), (1, .int p0)] := hl
  refine lv_aload_n hx hb dX10_downloaded_0 rfl (lv_at hl 0 rfl) ?_
  refine lv_iload_n hx hb dX10_downloaded_1 rfl (lv_at hl 1 rfl) ?_
  refine lv_i2l hx hb dX10_downloaded_2 rfl ?_
  refine lv_lconst (v := 0) hx hb dX10_downloaded_3 rfl ?_
  refine lv_lconst (v := 1) hx hb dX10_downloaded_4 rfl ?_
  refine rdS (pc1 := 8) (rest := [.ref h0]) (st1 := [.int (f_X10_in p0.toInt64 0 1), .ref h0]) S (c_X10_in l D cI cJ cC  p0.toInt64 0 1 _ rfl) (cw_X10_39 S.2.2.2.2 ⟨Nat.le_of_ble_eq_true rfl, Nat.le_of_ble_eq_true rfl⟩) hK (hP.sub [] rfl) rfl hl.1 rfl (Nat.le_of_ble_eq_true rfl) ⟨Nat.zero_le _, Nat.zero_le _⟩ rfl rfl dX10_downloaded_5 ?_
  obtain ⟨y1, y2, e_y1⟩ : ∃ a0 a1, f_X10_isWrong v0_has (f_X10_in p0.toInt64 0 1) = (a0, a1) := ⟨_, _, rfl⟩
  have h := bnd2_eq e_y1 h
  refine wrV (pc1 := 11) (rest := []) (st1 := [.int y1]) (wr := [(h1, .inl (cJ, 760, .inr (.inl r1)))]) S (c_X10_isWrong l D cI cJ cC h0 kthis_p kthis_rates kthis_ladder kthis_lengths kthis_flows h1 kthis_trial v0_phases v0_has v0_thrown s.heap.size (f_X10_in p0.toInt64 0 1) (y1, y2) e_y1) (cw_X10_183 S.2.2.2.2 ⟨Nat.le_of_ble_eq_true rfl, Nat.le_of_ble_eq_true rfl⟩) hK hP hD hS hA [0] [1] rfl rfl rfl (by decide) (by decide) (by decide) rfl rfl rfl rfl hl.1 rfl (Nat.le_of_ble_eq_true rfl) ⟨Nat.zero_le _, Nat.zero_le _⟩ rfl rfl dX10_downloaded_8 (fun H locs hP hD hS => ?_)
  have hP : va_P D vwCl [(h1, .inl (cJ, 760, .inr (.inl r1))), (h0, .inr (10, [.ref kthis_p, .ref kthis_rates, .ref kthis_ladder, .ref kthis_lengths, .ref kthis_flows, .int v0_phases, .ref h1, .ref kthis_trial, .int v0_has, .int y2]))] H := hP
  have hD : va_D A [(h1, .inl (cJ, 760, .inr (.inl r1))), (h0, .inr (10, [.ref kthis_p, .ref kthis_rates, .ref kthis_ladder, .ref kthis_lengths, .ref kthis_flows, .int v0_phases, .ref h1, .ref kthis_trial, .int v0_has, .int y2]))] := hD
  refine lv_if_eq (tgt := 18) hx hb dX10_downloaded_11 (by decide) (fun c3 => ?_) (fun c3 => ?_)
  · have h := iteP c3 h
    refine lv_aload_n hx hb dX10_downloaded_18 rfl (lv_at hl 0 rfl) ?_
    refine gf_X10_25 (v := .ref h1) S hK hP 1 rfl rfl dX10_downloaded_19 ?_
    refine lv_iconst (v := 3) hx hb dX10_downloaded_22 li_3 ?_
    refine lv_iload_n hx hb dX10_downloaded_23 rfl (lv_at hl 1 rfl) ?_
    refine lv_iadd hx hb dX10_downloaded_24 ?_
    obtain ⟨g4, h⟩ := grd_eq h
    refine aldJ (k := (3 + p0).toNatClampNeg) (q0 := 0) S hK hP rfl (vin_in g4) rfl dX10_downloaded_25 ?_
    refine lv_l2i hx hb dX10_downloaded_26 rfl ?_
    have h := Option.some.inj h
    subst h
    exact wRi S hr hlk (hP.sub [1, 0] rfl) (hD.sub [1, 0] (by decide) rfl) hS dX10_downloaded_27
  · have h := iteN c3 h
    refine lv_iconst (v := 0) hx hb dX10_downloaded_14 li_0 ?_
    refine lv_goto (tgt := 27) hx hb dX10_downloaded_15 (by decide) ?_
    have h := Option.some.inj h
    subst h
    exact wRi S hr hlk (hP.sub [1, 0] rfl) (hD.sub [1, 0] (by decide) rfl) hS dX10_downloaded_27
abbrev rm_X10_rungOf : Room := { frames := 1, cells := 0, slots := 0, locals := 25 }
theorem dX10_rungOf_0 : decode cX10_rungOf 0 = .ok (.aload_n 0, 1) := by decide +kernel
theorem dX10_rungOf_1 : decode cX10_rungOf 1 = .ok (.iload_n 1, 1) := by decide +kernel
theorem dX10_rungOf_2 : decode cX10_rungOf 2 = .ok (.i2l, 1) := by decide +kernel
theorem dX10_rungOf_3 : decode cX10_rungOf 3 = .ok (.lconst 0, 1) := by decide +kernel
theorem dX10_rungOf_4 : decode cX10_rungOf 4 = .ok (.lconst 1, 1) := by decide +kernel
theorem dX10_rungOf_5 : decode cX10_rungOf 5 = .ok (.invokestatic 39, 3) := by decide +kernel
theorem dX10_rungOf_8 : decode cX10_rungOf 8 = .ok (.ifCond .eq 11, 3) := by decide +kernel
theorem dX10_rungOf_11 : decode cX10_rungOf 11 = .ok (.iload_n 2, 1) := by decide +kernel
theorem dX10_rungOf_12 : decode cX10_rungOf 12 = .ok (.ifCond .lt 7, 3) := by decide +kernel
theorem dX10_rungOf_15 : decode cX10_rungOf 15 = .ok (.iconst 1, 1) := by decide +kernel
theorem dX10_rungOf_16 : decode cX10_rungOf 16 = .ok (.goto 4, 3) := by decide +kernel
theorem dX10_rungOf_19 : decode cX10_rungOf 19 = .ok (.iconst 0, 1) := by decide +kernel
theorem dX10_rungOf_20 : decode cX10_rungOf 20 = .ok (.invokevirtual 183, 3) := by decide +kernel
theorem dX10_rungOf_23 : decode cX10_rungOf 23 = .ok (.ifCond .eq 5, 3) := by decide +kernel
theorem dX10_rungOf_26 : decode cX10_rungOf 26 = .ok (.iconst 0, 1) := by decide +kernel
theorem dX10_rungOf_27 : decode cX10_rungOf 27 = .ok (.ireturn, 1) := by decide +kernel
theorem dX10_rungOf_28 : decode cX10_rungOf 28 = .ok (.iload_n 2, 1) := by decide +kernel
theorem dX10_rungOf_29 : decode cX10_rungOf 29 = .ok (.i2l, 1) := by decide +kernel
theorem dX10_rungOf_30 : decode cX10_rungOf 30 = .ok (.aload_n 0, 1) := by decide +kernel
theorem dX10_rungOf_31 : decode cX10_rungOf 31 = .ok (.getfield 25, 3) := by decide +kernel
theorem dX10_rungOf_34 : decode cX10_rungOf 34 = .ok (.iconst 3, 1) := by decide +kernel
theorem dX10_rungOf_35 : decode cX10_rungOf 35 = .ok (.iload_n 1, 1) := by decide +kernel
theorem dX10_rungOf_36 : decode cX10_rungOf 36 = .ok (.iadd, 1) := by decide +kernel
theorem dX10_rungOf_37 : decode cX10_rungOf 37 = .ok (.laload, 1) := by decide +kernel
theorem dX10_rungOf_38 : decode cX10_rungOf 38 = .ok (.lcmp, 1) := by decide +kernel
theorem dX10_rungOf_39 : decode cX10_rungOf 39 = .ok (.ifCond .ge 22, 3) := by decide +kernel
theorem dX10_rungOf_42 : decode cX10_rungOf 42 = .ok (.aload_n 0, 1) := by decide +kernel
theorem dX10_rungOf_43 : decode cX10_rungOf 43 = .ok (.getfield 25, 3) := by decide +kernel
theorem dX10_rungOf_46 : decode cX10_rungOf 46 = .ok (.bipush 50, 2) := by decide +kernel
theorem dX10_rungOf_48 : decode cX10_rungOf 48 = .ok (.sipush 200, 3) := by decide +kernel
theorem dX10_rungOf_51 : decode cX10_rungOf 51 = .ok (.iload_n 1, 1) := by decide +kernel
theorem dX10_rungOf_52 : decode cX10_rungOf 52 = .ok (.imul, 1) := by decide +kernel
theorem dX10_rungOf_53 : decode cX10_rungOf 53 = .ok (.iadd, 1) := by decide +kernel
theorem dX10_rungOf_54 : decode cX10_rungOf 54 = .ok (.iload_n 2, 1) := by decide +kernel
theorem dX10_rungOf_55 : decode cX10_rungOf 55 = .ok (.iadd, 1) := by decide +kernel
theorem dX10_rungOf_56 : decode cX10_rungOf 56 = .ok (.laload, 1) := by decide +kernel
theorem dX10_rungOf_57 : decode cX10_rungOf 57 = .ok (.l2i, 1) := by decide +kernel
theorem dX10_rungOf_58 : decode cX10_rungOf 58 = .ok (.goto 4, 3) := by decide +kernel
theorem dX10_rungOf_61 : decode cX10_rungOf 61 = .ok (.iconst (-1), 1) := by decide +kernel
theorem dX10_rungOf_62 : decode cX10_rungOf 62 = .ok (.ireturn, 1) := by decide +kernel
def f_X10_rungOf (v0_has : Int32) (r1 : Nat → Int64) (p0 p1 : Int32) : Option (Int32 × Int32) :=
  if (f_X10_in p0.toInt64 0 1) = 0 then
    bnd2 (f_X10_isWrong v0_has 0) fun (y2 : Int32) (y3 : Int32) =>
    if y2 = 0 then
      grd (vin (3 + p0) 760) <|
      if (r1 (3 + p0).toNatClampNeg) ≤ p1.toInt64 then
        some ((-1), y3)
      else
        grd (vin ((50 + (200 * p0)) + p1) 760) <|
        some ((r1 ((50 + (200 * p0)) + p1).toNatClampNeg).toInt32, y3)
    else
      some (0, y3)
  else
    if p1 < 0 then
      bnd2 (f_X10_isWrong v0_has 0) fun (y9 : Int32) (y10 : Int32) =>
      if y9 = 0 then
        grd (vin (3 + p0) 760) <|
        if (r1 (3 + p0).toNatClampNeg) ≤ p1.toInt64 then
          some ((-1), y10)
        else
          grd (vin ((50 + (200 * p0)) + p1) 760) <|
          some ((r1 ((50 + (200 * p0)) + p1).toNatClampNeg).toInt32, y10)
      else
        some (0, y10)
    else
      bnd2 (f_X10_isWrong v0_has 1) fun (y15 : Int32) (y16 : Int32) =>
      if y15 = 0 then
        grd (vin (3 + p0) 760) <|
        if (r1 (3 + p0).toNatClampNeg) ≤ p1.toInt64 then
          some ((-1), y16)
        else
          grd (vin ((50 + (200 * p0)) + p1) 760) <|
          some ((r1 ((50 + (200 * p0)) + p1).toNatClampNeg).toInt32, y16)
      else
        some (0, y16)
set_option maxHeartbeats 4000000 in
set_option maxRecDepth 100000 in
theorem c_X10_rungOf (l : Launch) (D : va_G) (cI cJ cC : ClassId) (h0 h1 kthis_p kthis_rates kthis_ladder kthis_lengths kthis_flows kthis_trial : Nat) (v0_phases v0_has v0_thrown : Int32) (r1 : Nat → Int64) (sz : Nat) (p0 p1 : Int32) (T : Int32 × Int32) (h : f_X10_rungOf v0_has r1 p0 p1 = some T) : Met l yX10_rungOf (Cond.code yX10_rungOf cX10_rungOf 3 (some .int) :: TB) rm_X10_rungOf (PreW D cI cJ cC [(h0, .inr (10, [.ref kthis_p, .ref kthis_rates, .ref kthis_ladder, .ref kthis_lengths, .ref kthis_flows, .int v0_phases, .ref h1, .ref kthis_trial, .int v0_has, .int v0_thrown])), (h1, .inl (cJ, 760, .inr (.inl r1)))] sz [.ref h0, .int p0, .int p1]) (QW (some (.int T.1)) D [(h0, .inr (10, [.ref kthis_p, .ref kthis_rates, .ref kthis_ladder, .ref kthis_lengths, .ref kthis_flows, .int v0_phases, .ref h1, .ref kthis_trial, .int v0_has, .int T.2])), (h1, .inl (cJ, 760, .inr (.inl r1)))] (va_A [(h0, .inr (10, [.ref kthis_p, .ref kthis_rates, .ref kthis_ladder, .ref kthis_lengths, .ref kthis_flows, .int v0_phases, .ref h1, .ref kthis_trial, .int v0_has, .int v0_thrown])), (h1, .inl (cJ, 760, .inr (.inl r1)))] sz)) 0 0 (va_A [(h0, .inr (10, [.ref kthis_p, .ref kthis_rates, .ref kthis_ladder, .ref kthis_lengths, .ref kthis_flows, .int v0_phases, .ref h1, .ref kthis_trial, .int v0_has, .int v0_thrown])), (h1, .inl (cJ, 760, .inr (.inl r1)))] sz) := by
  refine metW (own := RX10) (by decide) rfl (Nat.le_of_ble_eq_true rfl) ?_
  intro p e s m below meth c S hr hlk hP hK A hAe hD hA hS ls hl
  clear hAe
  have hx := S.1
  have hb := S.2.1
  have hl : lv_has ls 3 [(0, .ref h0), (1, .int p0), (2, .int p1)] := hl
  refine lv_aload_n hx hb dX10_rungOf_0 rfl (lv_at hl 0 rfl) ?_
  refine lv_iload_n hx hb dX10_rungOf_1 rfl (lv_at hl 1 rfl) ?_
  refine lv_i2l hx hb dX10_rungOf_2 rfl ?_
  refine lv_lconst (v := 0) hx hb dX10_rungOf_3 rfl ?_
  refine lv_lconst (v := 1) hx hb dX10_rungOf_4 rfl ?_
  refine rdS (pc1 := 8) (rest := [.ref h0]) (st1 := [.int (f_X10_in p0.toInt64 0 1), .ref h0]) S (c_X10_in l D cI cJ cC  p0.toInt64 0 1 _ rfl) (cw_X10_39 S.2.2.2.2 ⟨Nat.le_of_ble_eq_true rfl, Nat.le_of_ble_eq_true rfl⟩) hK (hP.sub [] rfl) rfl hl.1 rfl (Nat.le_of_ble_eq_true rfl) ⟨Nat.zero_le _, Nat.zero_le _⟩ rfl rfl dX10_rungOf_5 ?_
  refine lv_if_eq (tgt := 19) hx hb dX10_rungOf_8 (by decide) (fun c1 => ?_) (fun c1 => ?_)
  · have h := iteP c1 h
    refine lv_iconst (v := 0) hx hb dX10_rungOf_19 li_0 ?_
    obtain ⟨y2, y3, e_y2⟩ : ∃ a0 a1, f_X10_isWrong v0_has 0 = (a0, a1) := ⟨_, _, rfl⟩
    have h := bnd2_eq e_y2 h
    refine wrV (pc1 := 23) (rest := []) (st1 := [.int y2]) (wr := [(h1, .inl (cJ, 760, .inr (.inl r1)))]) S (c_X10_isWrong l D cI cJ cC h0 kthis_p kthis_rates kthis_ladder kthis_lengths kthis_flows h1 kthis_trial v0_phases v0_has v0_thrown s.heap.size 0 (y2, y3) e_y2) (cw_X10_183 S.2.2.2.2 ⟨Nat.le_of_ble_eq_true rfl, Nat.le_of_ble_eq_true rfl⟩) hK hP hD hS hA [0] [1] rfl rfl rfl (by decide) (by decide) (by decide) rfl rfl rfl rfl hl.1 rfl (Nat.le_of_ble_eq_true rfl) ⟨Nat.zero_le _, Nat.zero_le _⟩ rfl rfl dX10_rungOf_20 (fun H locs hP hD hS => ?_)
    have hP : va_P D vwCl [(h1, .inl (cJ, 760, .inr (.inl r1))), (h0, .inr (10, [.ref kthis_p, .ref kthis_rates, .ref kthis_ladder, .ref kthis_lengths, .ref kthis_flows, .int v0_phases, .ref h1, .ref kthis_trial, .int v0_has, .int y3]))] H := hP
    have hD : va_D A [(h1, .inl (cJ, 760, .inr (.inl r1))), (h0, .inr (10, [.ref kthis_p, .ref kthis_rates, .ref kthis_ladder, .ref kthis_lengths, .ref kthis_flows, .int v0_phases, .ref h1, .ref kthis_trial, .int v0_has, .int y3]))] := hD
    refine lv_if_eq (tgt := 28) hx hb dX10_rungOf_23 (by decide) (fun c4 => ?_) (fun c4 => ?_)
    · have h := iteP c4 h
      refine lv_iload_n hx hb dX10_rungOf_28 rfl (lv_at hl 2 rfl) ?_
      refine lv_i2l hx hb dX10_rungOf_29 rfl ?_
      refine lv_aload_n hx hb dX10_rungOf_30 rfl (lv_at hl 0 rfl) ?_
      refine gf_X10_25 (v := .ref h1) S hK hP 1 rfl rfl dX10_rungOf_31 ?_
      refine lv_iconst (v := 3) hx hb dX10_rungOf_34 li_3 ?_
      refine lv_iload_n hx hb dX10_rungOf_35 rfl (lv_at hl 1 rfl) ?_
      refine lv_iadd hx hb dX10_rungOf_36 ?_
      obtain ⟨g5, h⟩ := grd_eq h
      refine aldJ (k := (3 + p0).toNatClampNeg) (q0 := 0) S hK hP rfl (vin_in g5) rfl dX10_rungOf_37 ?_
      refine lc_ge (tgt := 61) hx hb dX10_rungOf_38 dX10_rungOf_39 (by decide) (fun c6 => ?_) (fun c6 => ?_)
      · have h := iteP c6 h
        refine lv_iconst (v := (-1)) hx hb dX10_rungOf_61 li_m1 ?_
        have h := Option.some.inj h
        subst h
        exact wRi S hr hlk (hP.sub [1, 0] rfl) (hD.sub [1, 0] (by decide) rfl) hS dX10_rungOf_62
      · have h := iteN c6 h
        refine lv_aload_n hx hb dX10_rungOf_42 rfl (lv_at hl 0 rfl) ?_
        refine gf_X10_25 (v := .ref h1) S hK hP 1 rfl rfl dX10_rungOf_43 ?_
        refine lv_bipush (v := 50) hx hb dX10_rungOf_46 lb_50 ?_
        refine lv_sipush (v := 200) hx hb dX10_rungOf_48 ls_200 ?_
        refine lv_iload_n hx hb dX10_rungOf_51 rfl (lv_at hl 1 rfl) ?_
        refine lv_imul hx hb dX10_rungOf_52 ?_
        refine lv_iadd hx hb dX10_rungOf_53 ?_
        refine lv_iload_n hx hb dX10_rungOf_54 rfl (lv_at hl 2 rfl) ?_
        refine lv_iadd hx hb dX10_rungOf_55 ?_
        obtain ⟨g7, h⟩ := grd_eq h
        refine aldJ (k := ((50 + (200 * p0)) + p1).toNatClampNeg) (q0 := 0) S hK hP rfl (vin_in g7) rfl dX10_rungOf_56 ?_
        refine lv_l2i hx hb dX10_rungOf_57 rfl ?_
        refine lv_goto (tgt := 62) hx hb dX10_rungOf_58 (by decide) ?_
        have h := Option.some.inj h
        subst h
        exact wRi S hr hlk (hP.sub [1, 0] rfl) (hD.sub [1, 0] (by decide) rfl) hS dX10_rungOf_62
    · have h := iteN c4 h
      refine lv_iconst (v := 0) hx hb dX10_rungOf_26 li_0 ?_
      have h := Option.some.inj h
      subst h
      exact wRi S hr hlk (hP.sub [1, 0] rfl) (hD.sub [1, 0] (by decide) rfl) hS dX10_rungOf_27
  · have h := iteN c1 h
    refine lv_iload_n hx hb dX10_rungOf_11 rfl (lv_at hl 2 rfl) ?_
    refine lv_if_lt (tgt := 19) hx hb dX10_rungOf_12 (by decide) (fun c8 => ?_) (fun c8 => ?_)
    · have h := iteP c8 h
      refine lv_iconst (v := 0) hx hb dX10_rungOf_19 li_0 ?_
      obtain ⟨y9, y10, e_y9⟩ : ∃ a0 a1, f_X10_isWrong v0_has 0 = (a0, a1) := ⟨_, _, rfl⟩
      have h := bnd2_eq e_y9 h
      refine wrV (pc1 := 23) (rest := []) (st1 := [.int y9]) (wr := [(h1, .inl (cJ, 760, .inr (.inl r1)))]) S (c_X10_isWrong l D cI cJ cC h0 kthis_p kthis_rates kthis_ladder kthis_lengths kthis_flows h1 kthis_trial v0_phases v0_has v0_thrown s.heap.size 0 (y9, y10) e_y9) (cw_X10_183 S.2.2.2.2 ⟨Nat.le_of_ble_eq_true rfl, Nat.le_of_ble_eq_true rfl⟩) hK hP hD hS hA [0] [1] rfl rfl rfl (by decide) (by decide) (by decide) rfl rfl rfl rfl hl.1 rfl (Nat.le_of_ble_eq_true rfl) ⟨Nat.zero_le _, Nat.zero_le _⟩ rfl rfl dX10_rungOf_20 (fun H locs hP hD hS => ?_)
      have hP : va_P D vwCl [(h1, .inl (cJ, 760, .inr (.inl r1))), (h0, .inr (10, [.ref kthis_p, .ref kthis_rates, .ref kthis_ladder, .ref kthis_lengths, .ref kthis_flows, .int v0_phases, .ref h1, .ref kthis_trial, .int v0_has, .int y10]))] H := hP
      have hD : va_D A [(h1, .inl (cJ, 760, .inr (.inl r1))), (h0, .inr (10, [.ref kthis_p, .ref kthis_rates, .ref kthis_ladder, .ref kthis_lengths, .ref kthis_flows, .int v0_phases, .ref h1, .ref kthis_trial, .int v0_has, .int y10]))] := hD
      refine lv_if_eq (tgt := 28) hx hb dX10_rungOf_23 (by decide) (fun c11 => ?_) (fun c11 => ?_)
      · have h := iteP c11 h
        refine lv_iload_n hx hb dX10_rungOf_28 rfl (lv_at hl 2 rfl) ?_
        refine lv_i2l hx hb dX10_rungOf_29 rfl ?_
        refine lv_aload_n hx hb dX10_rungOf_30 rfl (lv_at hl 0 rfl) ?_
        refine gf_X10_25 (v := .ref h1) S hK hP 1 rfl rfl dX10_rungOf_31 ?_
        refine lv_iconst (v := 3) hx hb dX10_rungOf_34 li_3 ?_
        refine lv_iload_n hx hb dX10_rungOf_35 rfl (lv_at hl 1 rfl) ?_
        refine lv_iadd hx hb dX10_rungOf_36 ?_
        obtain ⟨g12, h⟩ := grd_eq h
        refine aldJ (k := (3 + p0).toNatClampNeg) (q0 := 0) S hK hP rfl (vin_in g12) rfl dX10_rungOf_37 ?_
        refine lc_ge (tgt := 61) hx hb dX10_rungOf_38 dX10_rungOf_39 (by decide) (fun c13 => ?_) (fun c13 => ?_)
        · have h := iteP c13 h
          refine lv_iconst (v := (-1)) hx hb dX10_rungOf_61 li_m1 ?_
          have h := Option.some.inj h
          subst h
          exact wRi S hr hlk (hP.sub [1, 0] rfl) (hD.sub [1, 0] (by decide) rfl) hS dX10_rungOf_62
        · have h := iteN c13 h
          refine lv_aload_n hx hb dX10_rungOf_42 rfl (lv_at hl 0 rfl) ?_
          refine gf_X10_25 (v := .ref h1) S hK hP 1 rfl rfl dX10_rungOf_43 ?_
          refine lv_bipush (v := 50) hx hb dX10_rungOf_46 lb_50 ?_
          refine lv_sipush (v := 200) hx hb dX10_rungOf_48 ls_200 ?_
          refine lv_iload_n hx hb dX10_rungOf_51 rfl (lv_at hl 1 rfl) ?_
          refine lv_imul hx hb dX10_rungOf_52 ?_
          refine lv_iadd hx hb dX10_rungOf_53 ?_
          refine lv_iload_n hx hb dX10_rungOf_54 rfl (lv_at hl 2 rfl) ?_
          refine lv_iadd hx hb dX10_rungOf_55 ?_
          obtain ⟨g14, h⟩ := grd_eq h
          refine aldJ (k := ((50 + (200 * p0)) + p1).toNatClampNeg) (q0 := 0) S hK hP rfl (vin_in g14) rfl dX10_rungOf_56 ?_
          refine lv_l2i hx hb dX10_rungOf_57 rfl ?_
          refine lv_goto (tgt := 62) hx hb dX10_rungOf_58 (by decide) ?_
          have h := Option.some.inj h
          subst h
          exact wRi S hr hlk (hP.sub [1, 0] rfl) (hD.sub [1, 0] (by decide) rfl) hS dX10_rungOf_62
      · have h := iteN c11 h
        refine lv_iconst (v := 0) hx hb dX10_rungOf_26 li_0 ?_
        have h := Option.some.inj h
        subst h
        exact wRi S hr hlk (hP.sub [1, 0] rfl) (hD.sub [1, 0] (by decide) rfl) hS dX10_rungOf_27
    · have h := iteN c8 h
      refine lv_iconst (v := 1) hx hb dX10_rungOf_15 li_1 ?_
      refine lv_goto (tgt := 20) hx hb dX10_rungOf_16 (by decide) ?_
      obtain ⟨y15, y16, e_y15⟩ : ∃ a0 a1, f_X10_isWrong v0_has 1 = (a0, a1) := ⟨_, _, rfl⟩
      have h := bnd2_eq e_y15 h
      refine wrV (pc1 := 23) (rest := []) (st1 := [.int y15]) (wr := [(h1, .inl (cJ, 760, .inr (.inl r1)))]) S (c_X10_isWrong l D cI cJ cC h0 kthis_p kthis_rates kthis_ladder kthis_lengths kthis_flows h1 kthis_trial v0_phases v0_has v0_thrown s.heap.size 1 (y15, y16) e_y15) (cw_X10_183 S.2.2.2.2 ⟨Nat.le_of_ble_eq_true rfl, Nat.le_of_ble_eq_true rfl⟩) hK hP hD hS hA [0] [1] rfl rfl rfl (by decide) (by decide) (by decide) rfl rfl rfl rfl hl.1 rfl (Nat.le_of_ble_eq_true rfl) ⟨Nat.zero_le _, Nat.zero_le _⟩ rfl rfl dX10_rungOf_20 (fun H locs hP hD hS => ?_)
      have hP : va_P D vwCl [(h1, .inl (cJ, 760, .inr (.inl r1))), (h0, .inr (10, [.ref kthis_p, .ref kthis_rates, .ref kthis_ladder, .ref kthis_lengths, .ref kthis_flows, .int v0_phases, .ref h1, .ref kthis_trial, .int v0_has, .int y16]))] H := hP
      have hD : va_D A [(h1, .inl (cJ, 760, .inr (.inl r1))), (h0, .inr (10, [.ref kthis_p, .ref kthis_rates, .ref kthis_ladder, .ref kthis_lengths, .ref kthis_flows, .int v0_phases, .ref h1, .ref kthis_trial, .int v0_has, .int y16]))] := hD
      refine lv_if_eq (tgt := 28) hx hb dX10_rungOf_23 (by decide) (fun c17 => ?_) (fun c17 => ?_)
      · have h := iteP c17 h
        refine lv_iload_n hx hb dX10_rungOf_28 rfl (lv_at hl 2 rfl) ?_
        refine lv_i2l hx hb dX10_rungOf_29 rfl ?_
        refine lv_aload_n hx hb dX10_rungOf_30 rfl (lv_at hl 0 rfl) ?_
        refine gf_X10_25 (v := .ref h1) S hK hP 1 rfl rfl dX10_rungOf_31 ?_
        refine lv_iconst (v := 3) hx hb dX10_rungOf_34 li_3 ?_
        refine lv_iload_n hx hb dX10_rungOf_35 rfl (lv_at hl 1 rfl) ?_
        refine lv_iadd hx hb dX10_rungOf_36 ?_
        obtain ⟨g18, h⟩ := grd_eq h
        refine aldJ (k := (3 + p0).toNatClampNeg) (q0 := 0) S hK hP rfl (vin_in g18) rfl dX10_rungOf_37 ?_
        refine lc_ge (tgt := 61) hx hb dX10_rungOf_38 dX10_rungOf_39 (by decide) (fun c19 => ?_) (fun c19 => ?_)
        · have h := iteP c19 h
          refine lv_iconst (v := (-1)) hx hb dX10_rungOf_61 li_m1 ?_
          have h := Option.some.inj h
          subst h
          exact wRi S hr hlk (hP.sub [1, 0] rfl) (hD.sub [1, 0] (by decide) rfl) hS dX10_rungOf_62
        · have h := iteN c19 h
          refine lv_aload_n hx hb dX10_rungOf_42 rfl (lv_at hl 0 rfl) ?_
          refine gf_X10_25 (v := .ref h1) S hK hP 1 rfl rfl dX10_rungOf_43 ?_
          refine lv_bipush (v := 50) hx hb dX10_rungOf_46 lb_50 ?_
          refine lv_sipush (v := 200) hx hb dX10_rungOf_48 ls_200 ?_
          refine lv_iload_n hx hb dX10_rungOf_51 rfl (lv_at hl 1 rfl) ?_
          refine lv_imul hx hb dX10_rungOf_52 ?_
          refine lv_iadd hx hb dX10_rungOf_53 ?_
          refine lv_iload_n hx hb dX10_rungOf_54 rfl (lv_at hl 2 rfl) ?_
          refine lv_iadd hx hb dX10_rungOf_55 ?_
          obtain ⟨g20, h⟩ := grd_eq h
          refine aldJ (k := ((50 + (200 * p0)) + p1).toNatClampNeg) (q0 := 0) S hK hP rfl (vin_in g20) rfl dX10_rungOf_56 ?_
          refine lv_l2i hx hb dX10_rungOf_57 rfl ?_
          refine lv_goto (tgt := 62) hx hb dX10_rungOf_58 (by decide) ?_
          have h := Option.some.inj h
          subst h
          exact wRi S hr hlk (hP.sub [1, 0] rfl) (hD.sub [1, 0] (by decide) rfl) hS dX10_rungOf_62
      · have h := iteN c17 h
        refine lv_iconst (v := 0) hx hb dX10_rungOf_26 li_0 ?_
        have h := Option.some.inj h
        subst h
        exact wRi S hr hlk (hP.sub [1, 0] rfl) (hD.sub [1, 0] (by decide) rfl) hS dX10_rungOf_27
abbrev rm_X10_ofDownload : Room := { frames := 0, cells := 0, slots := 0, locals := 0 }
theorem dX10_ofDownload_0 : decode cX10_ofDownload 0 = .ok (.aload_n 0, 1) := by decide +kernel
theorem dX10_ofDownload_1 : decode cX10_ofDownload 1 = .ok (.getfield 25, 3) := by decide +kernel
theorem dX10_ofDownload_4 : decode cX10_ofDownload 4 = .ok (.iconst 5, 1) := by decide +kernel
theorem dX10_ofDownload_5 : decode cX10_ofDownload 5 = .ok (.laload, 1) := by decide +kernel
theorem dX10_ofDownload_6 : decode cX10_ofDownload 6 = .ok (.lconst 0, 1) := by decide +kernel
theorem dX10_ofDownload_7 : decode cX10_ofDownload 7 = .ok (.lcmp, 1) := by decide +kernel
theorem dX10_ofDownload_8 : decode cX10_ofDownload 8 = .ok (.ifCond .ne 7, 3) := by decide +kernel
theorem dX10_ofDownload_11 : decode cX10_ofDownload 11 = .ok (.iconst (-1), 1) := by decide +kernel
theorem dX10_ofDownload_12 : decode cX10_ofDownload 12 = .ok (.goto 13, 3) := by decide +kernel
theorem dX10_ofDownload_15 : decode cX10_ofDownload 15 = .ok (.aload_n 0, 1) := by decide +kernel
theorem dX10_ofDownload_16 : decode cX10_ofDownload 16 = .ok (.getfield 25, 3) := by decide +kernel
theorem dX10_ofDownload_19 : decode cX10_ofDownload 19 = .ok (.bipush 6, 2) := by decide +kernel
theorem dX10_ofDownload_21 : decode cX10_ofDownload 21 = .ok (.iload_n 1, 1) := by decide +kernel
theorem dX10_ofDownload_22 : decode cX10_ofDownload 22 = .ok (.iadd, 1) := by decide +kernel
theorem dX10_ofDownload_23 : decode cX10_ofDownload 23 = .ok (.laload, 1) := by decide +kernel
theorem dX10_ofDownload_24 : decode cX10_ofDownload 24 = .ok (.l2i, 1) := by decide +kernel
theorem dX10_ofDownload_25 : decode cX10_ofDownload 25 = .ok (.ireturn, 1) := by decide +kernel
def f_X10_ofDownload (r1 : Nat → Int64) (p0 : Int32) : Option Int32 :=
  if (r1 5) = 0 then
    some (-1)
  else
    grd (vin (6 + p0) 760) <|
    some ((r1 (6 + p0).toNatClampNeg).toInt32)
set_option maxHeartbeats 4000000 in
set_option maxRecDepth 100000 in
theorem c_X10_ofDownload (l : Launch) (D : va_G) (cI cJ cC : ClassId) (h0 h1 kthis_p kthis_rates kthis_ladder kthis_lengths kthis_flows kthis_trial : Nat) (v0_phases v0_has v0_thrown : Int32) (r1 : Nat → Int64) (p0 : Int32) (t0 : Int32) (h : f_X10_ofDownload r1 p0 = some t0) : Met l yX10_ofDownload (Cond.code yX10_ofDownload cX10_ofDownload 2 (some .int) :: TB) rm_X10_ofDownload (PreR D cI cJ cC [(h0, .inr (10, [.ref kthis_p, .ref kthis_rates, .ref kthis_ladder, .ref kthis_lengths, .ref kthis_flows, .int v0_phases, .ref h1, .ref kthis_trial, .int v0_has, .int v0_thrown])), (h1, .inl (cJ, 760, .inr (.inl r1)))] [.ref h0, .int p0]) (QR (some (.int t0))) 0 0 free0 := by
  refine metR (own := RX10) (by decide) rfl (Nat.le_of_ble_eq_true rfl) ?_
  intro p e s m below meth c S hr hlk hP hK ls hl
  have hx := S.1
  have hb := S.2.1
  have hl : lv_has ls 2 [(0, .ref h0), (1, .int p0)] := hl
  refine lv_aload_n hx hb dX10_ofDownload_0 rfl (lv_at hl 0 rfl) ?_
  refine gf_X10_25 (v := .ref h1) S hK hP 0 rfl rfl dX10_ofDownload_1 ?_
  refine lv_iconst (v := 5) hx hb dX10_ofDownload_4 li_5 ?_
  refine aldJ (k := 5) (q0 := 1) S hK hP rfl vl_5_760 tn_5 dX10_ofDownload_5 ?_
  refine lv_lconst (v := 0) hx hb dX10_ofDownload_6 rfl ?_
  refine lc_ne (tgt := 15) hx hb dX10_ofDownload_7 dX10_ofDownload_8 (by decide) (fun c1 => ?_) (fun c1 => ?_)
  · have h := iteN c1 h
    refine lv_aload_n hx hb dX10_ofDownload_15 rfl (lv_at hl 0 rfl) ?_
    refine gf_X10_25 (v := .ref h1) S hK hP 0 rfl rfl dX10_ofDownload_16 ?_
    refine lv_bipush (v := 6) hx hb dX10_ofDownload_19 lb_6 ?_
    refine lv_iload_n hx hb dX10_ofDownload_21 rfl (lv_at hl 1 rfl) ?_
    refine lv_iadd hx hb dX10_ofDownload_22 ?_
    obtain ⟨g2, h⟩ := grd_eq h
    refine aldJ (k := (6 + p0).toNatClampNeg) (q0 := 1) S hK hP rfl (vin_in g2) rfl dX10_ofDownload_23 ?_
    refine lv_l2i hx hb dX10_ofDownload_24 rfl ?_
    have h := Option.some.inj h
    subst h
    exact rRi S hr hlk dX10_ofDownload_25
  · have h := iteP c1 h
    refine lv_iconst (v := (-1)) hx hb dX10_ofDownload_11 li_m1 ?_
    refine lv_goto (tgt := 25) hx hb dX10_ofDownload_12 (by decide) ?_
    have h := Option.some.inj h
    subst h
    exact rRi S hr hlk dX10_ofDownload_25
abbrev rm_X10_download : Room := { frames := 1, cells := 0, slots := 0, locals := 25 }
theorem dX10_download_0 : decode cX10_download 0 = .ok (.aload_n 0, 1) := by decide +kernel
theorem dX10_download_1 : decode cX10_download 1 = .ok (.iload_n 1, 1) := by decide +kernel
theorem dX10_download_2 : decode cX10_download 2 = .ok (.i2l, 1) := by decide +kernel
theorem dX10_download_3 : decode cX10_download 3 = .ok (.lconst 0, 1) := by decide +kernel
theorem dX10_download_4 : decode cX10_download 4 = .ok (.ldc2_w 133, 3) := by decide +kernel
theorem dX10_download_7 : decode cX10_download 7 = .ok (.invokestatic 39, 3) := by decide +kernel
theorem dX10_download_10 : decode cX10_download 10 = .ok (.invokevirtual 183, 3) := by decide +kernel
theorem dX10_download_13 : decode cX10_download 13 = .ok (.ifCond .eq 7, 3) := by decide +kernel
theorem dX10_download_16 : decode cX10_download 16 = .ok (.iconst 0, 1) := by decide +kernel
theorem dX10_download_17 : decode cX10_download 17 = .ok (.goto 8, 3) := by decide +kernel
theorem dX10_download_20 : decode cX10_download 20 = .ok (.aload_n 0, 1) := by decide +kernel
theorem dX10_download_21 : decode cX10_download 21 = .ok (.iload_n 1, 1) := by decide +kernel
theorem dX10_download_22 : decode cX10_download 22 = .ok (.invokevirtual 187, 3) := by decide +kernel
theorem dX10_download_25 : decode cX10_download 25 = .ok (.ireturn, 1) := by decide +kernel
theorem cw_X10_187 {R : Room} {s : State} {args : Array Value} (hts : ∀ w ∈ TB, w.before args s = true) (hR : rm_X10_ofDownload.frames + 1 ≤ R.frames ∧ 8 + (2 + 11) + rm_X10_ofDownload.locals ≤ R.locals) : CallW R s args RX10 RX10 187 yX10_ofDownload cX10_ofDownload 2 (some .int) (Cond.code yX10_ofDownload cX10_ofDownload 2 (some .int) :: TB) rm_X10_ofDownload 0 0 1 := cwV 1 hts (gV tb1163 tb1164 tb41 tb57 tb1165) rfl rfl rfl ⟨rfl, by decide, by decide, by decide +kernel⟩ hR
def f_X10_download (v0_has : Int32) (r1 : Nat → Int64) (p0 : Int32) : Option (Int32 × Int32) :=
  bnd2 (f_X10_isWrong v0_has (f_X10_in p0.toInt64 0 4)) fun (y1 : Int32) (y2 : Int32) =>
  if y1 = 0 then
    obnd (f_X10_ofDownload r1 p0) fun (y4 : Int32) =>
    some (y4, y2)
  else
    some (0, y2)
set_option maxHeartbeats 4000000 in
set_option maxRecDepth 100000 in
theorem c_X10_download (l : Launch) (D : va_G) (cI cJ cC : ClassId) (h0 h1 kthis_p kthis_rates kthis_ladder kthis_lengths kthis_flows kthis_trial : Nat) (v0_phases v0_has v0_thrown : Int32) (r1 : Nat → Int64) (sz : Nat) (p0 : Int32) (T : Int32 × Int32) (h : f_X10_download v0_has r1 p0 = some T) : Met l yX10_download (Cond.code yX10_download cX10_download 2 (some .int) :: TB) rm_X10_download (PreW D cI cJ cC [(h0, .inr (10, [.ref kthis_p, .ref kthis_rates, .ref kthis_ladder, .ref kthis_lengths, .ref kthis_flows, .int v0_phases, .ref h1, .ref kthis_trial, .int v0_has, .int v0_thrown])), (h1, .inl (cJ, 760, .inr (.inl r1)))] sz [.ref h0, .int p0]) (QW (some (.int T.1)) D [(h0, .inr (10, [.ref kthis_p, .ref kthis_rates, .ref kthis_ladder, .ref kthis_lengths, .ref kthis_flows, .int v0_phases, .ref h1, .ref kthis_trial, .int v0_has, .int T.2])), (h1, .inl (cJ, 760, .inr (.inl r1)))] (va_A [(h0, .inr (10, [.ref kthis_p, .ref kthis_rates, .ref kthis_ladder, .ref kthis_lengths, .ref kthis_flows, .int v0_phases, .ref h1, .ref kthis_trial, .int v0_has, .int v0_thrown])), (h1, .inl (cJ, 760, .inr (.inl r1)))] sz)) 0 0 (va_A [(h0, .inr (10, [.ref kthis_p, .ref kthis_rates, .ref kthis_ladder, .ref kthis_lengths, .ref kthis_flows, .int v0_phases, .ref h1, .ref kthis_trial, .int v0_has, .int v0_thrown])), (h1, .inl (cJ, 760, .inr (.inl r1)))] sz) := by
  refine metW (own := RX10) (by decide) rfl (Nat.le_of_ble_eq_true rfl) ?_
  intro p e s m below meth c S hr hlk hP hK A hAe hD hA hS ls hl
  clear hAe
  have hx := S.1
  have hb := S.2.1
  have hl : lv_has ls 2 [(0, .ref h0), (1, .int p0)] := hl
  refine lv_aload_n hx hb dX10_download_0 rfl (lv_at hl 0 rfl) ?_
  refine lv_iload_n hx hb dX10_download_1 rfl (lv_at hl 1 rfl) ?_
  refine lv_i2l hx hb dX10_download_2 rfl ?_
  refine lv_lconst (v := 0) hx hb dX10_download_3 rfl ?_
  refine lv_ldc2 (v := 4) hx hb S.2.2.2.1 (S.2.2.2.2 _ tb1128) dX10_download_4 ?_
  refine rdS (pc1 := 10) (rest := [.ref h0]) (st1 := [.int (f_X10_in p0.toInt64 0 4), .ref h0]) S (c_X10_in l D cI cJ cC  p0.toInt64 0 4 _ rfl) (cw_X10_39 S.2.2.2.2 ⟨Nat.le_of_ble_eq_true rfl, Nat.le_of_ble_eq_true rfl⟩) hK (hP.sub [] rfl) rfl hl.1 rfl (Nat.le_of_ble_eq_true rfl) ⟨Nat.zero_le _, Nat.zero_le _⟩ rfl rfl dX10_download_7 ?_
  obtain ⟨y1, y2, e_y1⟩ : ∃ a0 a1, f_X10_isWrong v0_has (f_X10_in p0.toInt64 0 4) = (a0, a1) := ⟨_, _, rfl⟩
  have h := bnd2_eq e_y1 h
  refine wrV (pc1 := 13) (rest := []) (st1 := [.int y1]) (wr := [(h1, .inl (cJ, 760, .inr (.inl r1)))]) S (c_X10_isWrong l D cI cJ cC h0 kthis_p kthis_rates kthis_ladder kthis_lengths kthis_flows h1 kthis_trial v0_phases v0_has v0_thrown s.heap.size (f_X10_in p0.toInt64 0 4) (y1, y2) e_y1) (cw_X10_183 S.2.2.2.2 ⟨Nat.le_of_ble_eq_true rfl, Nat.le_of_ble_eq_true rfl⟩) hK hP hD hS hA [0] [1] rfl rfl rfl (by decide) (by decide) (by decide) rfl rfl rfl rfl hl.1 rfl (Nat.le_of_ble_eq_true rfl) ⟨Nat.zero_le _, Nat.zero_le _⟩ rfl rfl dX10_download_10 (fun H locs hP hD hS => ?_)
  have hP : va_P D vwCl [(h1, .inl (cJ, 760, .inr (.inl r1))), (h0, .inr (10, [.ref kthis_p, .ref kthis_rates, .ref kthis_ladder, .ref kthis_lengths, .ref kthis_flows, .int v0_phases, .ref h1, .ref kthis_trial, .int v0_has, .int y2]))] H := hP
  have hD : va_D A [(h1, .inl (cJ, 760, .inr (.inl r1))), (h0, .inr (10, [.ref kthis_p, .ref kthis_rates, .ref kthis_ladder, .ref kthis_lengths, .ref kthis_flows, .int v0_phases, .ref h1, .ref kthis_trial, .int v0_has, .int y2]))] := hD
  refine lv_if_eq (tgt := 20) hx hb dX10_download_13 (by decide) (fun c3 => ?_) (fun c3 => ?_)
  · have h := iteP c3 h
    refine lv_aload_n hx hb dX10_download_20 rfl (lv_at hl 0 rfl) ?_
    refine lv_iload_n hx hb dX10_download_21 rfl (lv_at hl 1 rfl) ?_
    obtain ⟨y4, e_y4, h⟩ := obnd_eq h
    refine rdV (pc1 := 25) (rest := []) (st1 := [.int y4]) S (c_X10_ofDownload l D cI cJ cC h0 h1 kthis_p kthis_rates kthis_ladder kthis_lengths kthis_flows kthis_trial v0_phases v0_has y2 r1 p0 y4 e_y4) (cw_X10_187 S.2.2.2.2 ⟨Nat.le_of_ble_eq_true rfl, Nat.le_of_ble_eq_true rfl⟩) hK (hP.sub [1, 0] rfl) rfl rfl rfl rfl hl.1 rfl (Nat.le_of_ble_eq_true rfl) ⟨Nat.zero_le _, Nat.zero_le _⟩ rfl rfl dX10_download_22 ?_
    have h := Option.some.inj h
    subst h
    exact wRi S hr hlk (hP.sub [1, 0] rfl) (hD.sub [1, 0] (by decide) rfl) hS dX10_download_25
  · have h := iteN c3 h
    refine lv_iconst (v := 0) hx hb dX10_download_16 li_0 ?_
    refine lv_goto (tgt := 25) hx hb dX10_download_17 (by decide) ?_
    have h := Option.some.inj h
    subst h
    exact wRi S hr hlk (hP.sub [1, 0] rfl) (hD.sub [1, 0] (by decide) rfl) hS dX10_download_25
abbrev rm_X10_received : Room := { frames := 1, cells := 0, slots := 0, locals := 22 }
theorem dX10_received_0 : decode cX10_received 0 = .ok (.aload_n 0, 1) := by decide +kernel
theorem dX10_received_1 : decode cX10_received 1 = .ok (.aload_n 0, 1) := by decide +kernel
theorem dX10_received_2 : decode cX10_received 2 = .ok (.getfield 25, 3) := by decide +kernel
theorem dX10_received_5 : decode cX10_received 5 = .ok (.iconst 5, 1) := by decide +kernel
theorem dX10_received_6 : decode cX10_received 6 = .ok (.laload, 1) := by decide +kernel
theorem dX10_received_7 : decode cX10_received 7 = .ok (.lconst 0, 1) := by decide +kernel
theorem dX10_received_8 : decode cX10_received 8 = .ok (.lcmp, 1) := by decide +kernel
theorem dX10_received_9 : decode cX10_received 9 = .ok (.ifCond .ne 9, 3) := by decide +kernel
theorem dX10_received_12 : decode cX10_received 12 = .ok (.ldc2_w 122, 3) := by decide +kernel
theorem dX10_received_15 : decode cX10_received 15 = .ok (.goto 10, 3) := by decide +kernel
theorem dX10_received_18 : decode cX10_received 18 = .ok (.aload_n 0, 1) := by decide +kernel
theorem dX10_received_19 : decode cX10_received 19 = .ok (.getfield 25, 3) := by decide +kernel
theorem dX10_received_22 : decode cX10_received 22 = .ok (.bipush 11, 2) := by decide +kernel
theorem dX10_received_24 : decode cX10_received 24 = .ok (.laload, 1) := by decide +kernel
theorem dX10_received_25 : decode cX10_received 25 = .ok (.invokevirtual 179, 3) := by decide +kernel
theorem dX10_received_28 : decode cX10_received 28 = .ok (.lreturn, 1) := by decide +kernel
def f_X10_received (v0_has : Int32) (r1 : Nat → Int64) : Int64 × Int32 :=
  if (r1 5) = 0 then
    bnd2 (f_X10_told v0_has (-1)) fun (z4 : Int64) (y5 : Int32) =>
    (z4, y5)
  else
    bnd2 (f_X10_told v0_has (r1 11)) fun (z2 : Int64) (y3 : Int32) =>
    (z2, y3)
set_option maxHeartbeats 4000000 in
set_option maxRecDepth 100000 in
theorem c_X10_received (l : Launch) (D : va_G) (cI cJ cC : ClassId) (h0 h1 kthis_p kthis_rates kthis_ladder kthis_lengths kthis_flows kthis_trial : Nat) (v0_phases v0_has v0_thrown : Int32) (r1 : Nat → Int64) (sz : Nat)  (T : Int64 × Int32) (h : f_X10_received v0_has r1 = T) : Met l yX10_received (Cond.code yX10_received cX10_received 1 (some .long) :: TB) rm_X10_received (PreW D cI cJ cC [(h0, .inr (10, [.ref kthis_p, .ref kthis_rates, .ref kthis_ladder, .ref kthis_lengths, .ref kthis_flows, .int v0_phases, .ref h1, .ref kthis_trial, .int v0_has, .int v0_thrown])), (h1, .inl (cJ, 760, .inr (.inl r1)))] sz [.ref h0]) (QW (some (.long T.1)) D [(h0, .inr (10, [.ref kthis_p, .ref kthis_rates, .ref kthis_ladder, .ref kthis_lengths, .ref kthis_flows, .int v0_phases, .ref h1, .ref kthis_trial, .int v0_has, .int T.2])), (h1, .inl (cJ, 760, .inr (.inl r1)))] (va_A [(h0, .inr (10, [.ref kthis_p, .ref kthis_rates, .ref kthis_ladder, .ref kthis_lengths, .ref kthis_flows, .int v0_phases, .ref h1, .ref kthis_trial, .int v0_has, .int v0_thrown])), (h1, .inl (cJ, 760, .inr (.inl r1)))] sz)) 0 0 (va_A [(h0, .inr (10, [.ref kthis_p, .ref kthis_rates, .ref kthis_ladder, .ref kthis_lengths, .ref kthis_flows, .int v0_phases, .ref h1, .ref kthis_trial, .int v0_has, .int v0_thrown])), (h1, .inl (cJ, 760, .inr (.inl r1)))] sz) := by
  refine metW (own := RX10) (by decide) rfl (Nat.le_of_ble_eq_true rfl) ?_
  intro p e s m below meth c S hr hlk hP hK A hAe hD hA hS ls hl
  clear hAe
  have hx := S.1
  have hb := S.2.1
  have hl : lv_has ls 1 [(0, .ref h0)] := hl
  refine lv_aload_n hx hb dX10_received_0 rfl (lv_at hl 0 rfl) ?_
  refine lv_aload_n hx hb dX10_received_1 rfl (lv_at hl 0 rfl) ?_
  refine gf_X10_25 (v := .ref h1) S hK hP 0 rfl rfl dX10_received_2 ?_
  refine lv_iconst (v := 5) hx hb dX10_received_5 li_5 ?_
  refine aldJ (k := 5) (q0 := 1) S hK hP rfl vl_5_760 tn_5 dX10_received_6 ?_
  refine lv_lconst (v := 0) hx hb dX10_received_7 rfl ?_
  refine lc_ne (tgt := 18) hx hb dX10_received_8 dX10_received_9 (by decide) (fun c1 => ?_) (fun c1 => ?_)
  · have h := iteN c1 h
    refine lv_aload_n hx hb dX10_received_18 rfl (lv_at hl 0 rfl) ?_
    refine gf_X10_25 (v := .ref h1) S hK hP 0 rfl rfl dX10_received_19 ?_
    refine lv_bipush (v := 11) hx hb dX10_received_22 lb_11 ?_
    refine aldJ (k := 11) (q0 := 1) S hK hP rfl vl_11_760 tn_11 dX10_received_24 ?_
    obtain ⟨z2, y3, e_z2⟩ : ∃ a0 a1, f_X10_told v0_has (r1 11) = (a0, a1) := ⟨_, _, rfl⟩
    have h := bnd2_eq e_z2 h
    refine wrV (pc1 := 28) (rest := []) (st1 := [.long z2]) (wr := [(h1, .inl (cJ, 760, .inr (.inl r1)))]) S (c_X10_told l D cI cJ cC h0 kthis_p kthis_rates kthis_ladder kthis_lengths kthis_flows h1 kthis_trial v0_phases v0_has v0_thrown s.heap.size (r1 11) (z2, y3) e_z2) (cw_X10_179 S.2.2.2.2 ⟨Nat.le_of_ble_eq_true rfl, Nat.le_of_ble_eq_true rfl⟩) hK hP hD hS hA [0] [1] rfl rfl rfl (by decide) (by decide) (by decide) rfl rfl rfl rfl hl.1 rfl (Nat.le_of_ble_eq_true rfl) ⟨Nat.zero_le _, Nat.zero_le _⟩ rfl rfl dX10_received_25 (fun H locs hP hD hS => ?_)
    have hP : va_P D vwCl [(h1, .inl (cJ, 760, .inr (.inl r1))), (h0, .inr (10, [.ref kthis_p, .ref kthis_rates, .ref kthis_ladder, .ref kthis_lengths, .ref kthis_flows, .int v0_phases, .ref h1, .ref kthis_trial, .int v0_has, .int y3]))] H := hP
    have hD : va_D A [(h1, .inl (cJ, 760, .inr (.inl r1))), (h0, .inr (10, [.ref kthis_p, .ref kthis_rates, .ref kthis_ladder, .ref kthis_lengths, .ref kthis_flows, .int v0_phases, .ref h1, .ref kthis_trial, .int v0_has, .int y3]))] := hD
    subst h
    exact wRl S hr hlk (hP.sub [1, 0] rfl) (hD.sub [1, 0] (by decide) rfl) hS dX10_received_28
  · have h := iteP c1 h
    refine lv_ldc2 (v := (-1)) hx hb S.2.2.2.1 (S.2.2.2.2 _ tb1060) dX10_received_12 ?_
    refine lv_goto (tgt := 25) hx hb dX10_received_15 (by decide) ?_
    obtain ⟨z4, y5, e_z4⟩ : ∃ a0 a1, f_X10_told v0_has (-1) = (a0, a1) := ⟨_, _, rfl⟩
    have h := bnd2_eq e_z4 h
    refine wrV (pc1 := 28) (rest := []) (st1 := [.long z4]) (wr := [(h1, .inl (cJ, 760, .inr (.inl r1)))]) S (c_X10_told l D cI cJ cC h0 kthis_p kthis_rates kthis_ladder kthis_lengths kthis_flows h1 kthis_trial v0_phases v0_has v0_thrown s.heap.size (-1) (z4, y5) e_z4) (cw_X10_179 S.2.2.2.2 ⟨Nat.le_of_ble_eq_true rfl, Nat.le_of_ble_eq_true rfl⟩) hK hP hD hS hA [0] [1] rfl rfl rfl (by decide) (by decide) (by decide) rfl rfl rfl rfl hl.1 rfl (Nat.le_of_ble_eq_true rfl) ⟨Nat.zero_le _, Nat.zero_le _⟩ rfl rfl dX10_received_25 (fun H locs hP hD hS => ?_)
    have hP : va_P D vwCl [(h1, .inl (cJ, 760, .inr (.inl r1))), (h0, .inr (10, [.ref kthis_p, .ref kthis_rates, .ref kthis_ladder, .ref kthis_lengths, .ref kthis_flows, .int v0_phases, .ref h1, .ref kthis_trial, .int v0_has, .int y5]))] H := hP
    have hD : va_D A [(h1, .inl (cJ, 760, .inr (.inl r1))), (h0, .inr (10, [.ref kthis_p, .ref kthis_rates, .ref kthis_ladder, .ref kthis_lengths, .ref kthis_flows, .int v0_phases, .ref h1, .ref kthis_trial, .int v0_has, .int y5]))] := hD
    subst h
    exact wRl S hr hlk (hP.sub [1, 0] rfl) (hD.sub [1, 0] (by decide) rfl) hS dX10_received_28
abbrev rm_X10_estimate : Room := { frames := 1, cells := 0, slots := 0, locals := 26 }
theorem dX10_estimate_0 : decode cX10_estimate 0 = .ok (.aload_n 0, 1) := by decide +kernel
theorem dX10_estimate_1 : decode cX10_estimate 1 = .ok (.aload_n 0, 1) := by decide +kernel
theorem dX10_estimate_2 : decode cX10_estimate 2 = .ok (.getfield 25, 3) := by decide +kernel
theorem dX10_estimate_5 : decode cX10_estimate 5 = .ok (.aload_n 0, 1) := by decide +kernel
theorem dX10_estimate_6 : decode cX10_estimate 6 = .ok (.getfield 7, 3) := by decide +kernel
theorem dX10_estimate_9 : decode cX10_estimate 9 = .ok (.bipush 8, 2) := by decide +kernel
theorem dX10_estimate_11 : decode cX10_estimate 11 = .ok (.iaload, 1) := by decide +kernel
theorem dX10_estimate_12 : decode cX10_estimate 12 = .ok (.invokestatic 92, 3) := by decide +kernel
theorem dX10_estimate_15 : decode cX10_estimate 15 = .ok (.invokevirtual 179, 3) := by decide +kernel
theorem dX10_estimate_18 : decode cX10_estimate 18 = .ok (.l2i, 1) := by decide +kernel
theorem dX10_estimate_19 : decode cX10_estimate 19 = .ok (.ireturn, 1) := by decide +kernel
def f_X10_estimate (v0_has : Int32) (r1 : Nat → Int64) (r2 : Nat → Int32) : Option (Int32 × Int32) :=
  obnd (f_X10_estimateOf r1 (r2 8)) fun (z1 : Int64) =>
  bnd2 (f_X10_told v0_has z1) fun (z2 : Int64) (y3 : Int32) =>
  some (z2.toInt32, y3)
set_option maxHeartbeats 4000000 in
set_option maxRecDepth 100000 in
theorem c_X10_estimate (l : Launch) (D : va_G) (cI cJ cC : ClassId) (h0 h1 h2 kthis_rates kthis_ladder kthis_lengths kthis_flows kthis_trial : Nat) (v0_phases v0_has v0_thrown : Int32) (r1 : Nat → Int64) (r2 : Nat → Int32) (sz : Nat)  (T : Int32 × Int32) (h : f_X10_estimate v0_has r1 r2 = some T) : Met l yX10_estimate (Cond.code yX10_estimate cX10_estimate 1 (some .int) :: TB) rm_X10_estimate (PreW D cI cJ cC [(h0, .inr (10, [.ref h2, .ref kthis_rates, .ref kthis_ladder, .ref kthis_lengths, .ref kthis_flows, .int v0_phases, .ref h1, .ref kthis_trial, .int v0_has, .int v0_thrown])), (h1, .inl (cJ, 760, .inr (.inl r1))), (h2, .inl (cI, 15, .inl r2))] sz [.ref h0]) (QW (some (.int T.1)) D [(h0, .inr (10, [.ref h2, .ref kthis_rates, .ref kthis_ladder, .ref kthis_lengths, .ref kthis_flows, .int v0_phases, .ref h1, .ref kthis_trial, .int v0_has, .int T.2])), (h1, .inl (cJ, 760, .inr (.inl r1))), (h2, .inl (cI, 15, .inl r2))] (va_A [(h0, .inr (10, [.ref h2, .ref kthis_rates, .ref kthis_ladder, .ref kthis_lengths, .ref kthis_flows, .int v0_phases, .ref h1, .ref kthis_trial, .int v0_has, .int v0_thrown])), (h1, .inl (cJ, 760, .inr (.inl r1))), (h2, .inl (cI, 15, .inl r2))] sz)) 0 0 (va_A [(h0, .inr (10, [.ref h2, .ref kthis_rates, .ref kthis_ladder, .ref kthis_lengths, .ref kthis_flows, .int v0_phases, .ref h1, .ref kthis_trial, .int v0_has, .int v0_thrown])), (h1, .inl (cJ, 760, .inr (.inl r1))), (h2, .inl (cI, 15, .inl r2))] sz) := by
  refine metW (own := RX10) (by decide) rfl (Nat.le_of_ble_eq_true rfl) ?_
  intro p e s m below meth c S hr hlk hP hK A hAe hD hA hS ls hl
  clear hAe
  have hx := S.1
  have hb := S.2.1
  have hl : lv_has ls 1 [(0, .ref h0)] := hl
  refine lv_aload_n hx hb dX10_estimate_0 rfl (lv_at hl 0 rfl) ?_
  refine lv_aload_n hx hb dX10_estimate_1 rfl (lv_at hl 0 rfl) ?_
  refine gf_X10_25 (v := .ref h1) S hK hP 0 rfl rfl dX10_estimate_2 ?_
  refine lv_aload_n hx hb dX10_estimate_5 rfl (lv_at hl 0 rfl) ?_
  refine gf_X10_7 (v := .ref h2) S hK hP 0 rfl rfl dX10_estimate_6 ?_
  refine lv_bipush (v := 8) hx hb dX10_estimate_9 lb_8 ?_
  refine aldI (k := 8) (q0 := 2) S hK hP rfl vl_8_15 tn_8 dX10_estimate_11 ?_
  obtain ⟨z1, e_z1, h⟩ := obnd_eq h
  refine rdS (pc1 := 15) (rest := [.ref h0]) (st1 := [.long z1, .ref h0]) S (c_X10_estimateOf l D cI cJ cC h1 r1 (r2 8) z1 e_z1) (cw_X10_92 S.2.2.2.2 ⟨Nat.le_of_ble_eq_true rfl, Nat.le_of_ble_eq_true rfl⟩) hK (hP.sub [1] rfl) rfl hl.1 rfl (Nat.le_of_ble_eq_true rfl) ⟨Nat.zero_le _, Nat.zero_le _⟩ rfl rfl dX10_estimate_12 ?_
  obtain ⟨z2, y3, e_z2⟩ : ∃ a0 a1, f_X10_told v0_has z1 = (a0, a1) := ⟨_, _, rfl⟩
  have h := bnd2_eq e_z2 h
  refine wrV (pc1 := 18) (rest := []) (st1 := [.long z2]) (wr := [(h1, .inl (cJ, 760, .inr (.inl r1))), (h2, .inl (cI, 15, .inl r2))]) S (c_X10_told l D cI cJ cC h0 h2 kthis_rates kthis_ladder kthis_lengths kthis_flows h1 kthis_trial v0_phases v0_has v0_thrown s.heap.size z1 (z2, y3) e_z2) (cw_X10_179 S.2.2.2.2 ⟨Nat.le_of_ble_eq_true rfl, Nat.le_of_ble_eq_true rfl⟩) hK hP hD hS hA [0] [1, 2] rfl rfl rfl (by decide) (by decide) (by decide) rfl rfl rfl rfl hl.1 rfl (Nat.le_of_ble_eq_true rfl) ⟨Nat.zero_le _, Nat.zero_le _⟩ rfl rfl dX10_estimate_15 (fun H locs hP hD hS => ?_)
  have hP : va_P D vwCl [(h1, .inl (cJ, 760, .inr (.inl r1))), (h2, .inl (cI, 15, .inl r2)), (h0, .inr (10, [.ref h2, .ref kthis_rates, .ref kthis_ladder, .ref kthis_lengths, .ref kthis_flows, .int v0_phases, .ref h1, .ref kthis_trial, .int v0_has, .int y3]))] H := hP
  have hD : va_D A [(h1, .inl (cJ, 760, .inr (.inl r1))), (h2, .inl (cI, 15, .inl r2)), (h0, .inr (10, [.ref h2, .ref kthis_rates, .ref kthis_ladder, .ref kthis_lengths, .ref kthis_flows, .int v0_phases, .ref h1, .ref kthis_trial, .int v0_has, .int y3]))] := hD
  refine lv_l2i hx hb dX10_estimate_18 rfl ?_
  have h := Option.some.inj h
  subst h
  exact wRi S hr hlk (hP.sub [2, 0, 1] rfl) (hD.sub [2, 0, 1] (by decide) rfl) hS dX10_estimate_19
abbrev rm_X10_nextRung : Room := { frames := 3, cells := 0, slots := 0, locals := 85 }
theorem dX10_nextRung_0 : decode cX10_nextRung 0 = .ok (.aload_n 0, 1) := by decide +kernel
theorem dX10_nextRung_1 : decode cX10_nextRung 1 = .ok (.aload_n 0, 1) := by decide +kernel
theorem dX10_nextRung_2 : decode cX10_nextRung 2 = .ok (.getfield 53, 3) := by decide +kernel
theorem dX10_nextRung_5 : decode cX10_nextRung 5 = .ok (.ifCond .eq 7, 3) := by decide +kernel
theorem dX10_nextRung_8 : decode cX10_nextRung 8 = .ok (.iconst 0, 1) := by decide +kernel
theorem dX10_nextRung_9 : decode cX10_nextRung 9 = .ok (.goto 4, 3) := by decide +kernel
theorem dX10_nextRung_12 : decode cX10_nextRung 12 = .ok (.iconst 1, 1) := by decide +kernel
theorem dX10_nextRung_13 : decode cX10_nextRung 13 = .ok (.putfield 33, 3) := by decide +kernel
theorem dX10_nextRung_16 : decode cX10_nextRung 16 = .ok (.aload_n 0, 1) := by decide +kernel
theorem dX10_nextRung_17 : decode cX10_nextRung 17 = .ok (.getfield 53, 3) := by decide +kernel
theorem dX10_nextRung_20 : decode cX10_nextRung 20 = .ok (.ifCond .eq 22, 3) := by decide +kernel
theorem dX10_nextRung_23 : decode cX10_nextRung 23 = .ok (.aload_n 0, 1) := by decide +kernel
theorem dX10_nextRung_24 : decode cX10_nextRung 24 = .ok (.aload_n 0, 1) := by decide +kernel
theorem dX10_nextRung_25 : decode cX10_nextRung 25 = .ok (.getfield 25, 3) := by decide +kernel
theorem dX10_nextRung_28 : decode cX10_nextRung 28 = .ok (.aload_n 0, 1) := by decide +kernel
theorem dX10_nextRung_29 : decode cX10_nextRung 29 = .ok (.getfield 7, 3) := by decide +kernel
theorem dX10_nextRung_32 : decode cX10_nextRung 32 = .ok (.bipush 12, 2) := by decide +kernel
theorem dX10_nextRung_34 : decode cX10_nextRung 34 = .ok (.iaload, 1) := by decide +kernel
theorem dX10_nextRung_35 : decode cX10_nextRung 35 = .ok (.invokevirtual 107, 3) := by decide +kernel
theorem dX10_nextRung_38 : decode cX10_nextRung 38 = .ok (.l2i, 1) := by decide +kernel
theorem dX10_nextRung_39 : decode cX10_nextRung 39 = .ok (.goto 4, 3) := by decide +kernel
theorem dX10_nextRung_42 : decode cX10_nextRung 42 = .ok (.iconst 0, 1) := by decide +kernel
theorem dX10_nextRung_43 : decode cX10_nextRung 43 = .ok (.ireturn, 1) := by decide +kernel
def f_X10_nextRung (v0_has : Int32) (r1 : Nat → Int32) (r2 : Nat → Int64) (r3 r4 : Nat → Int32) : Option (Int32 × Int32) :=
  if v0_has = 0 then
    if v0_has = 0 then
      some (0, 1)
    else
      obnd (f_X10_chosen r1 r3 r4 r2 (r3 12)) fun (z3 : Int64) =>
      some (z3.toInt32, 1)
  else
    if v0_has = 0 then
      some (0, 0)
    else
      obnd (f_X10_chosen r1 r3 r4 r2 (r3 12)) fun (z5 : Int64) =>
      some (z5.toInt32, 0)
set_option maxHeartbeats 4000000 in
set_option maxRecDepth 100000 in
theorem c_X10_nextRung (l : Launch) (D : va_G) (cI cJ cC : ClassId) (h0 h1 h2 h3 h4 kthis_lengths kthis_flows kthis_trial : Nat) (v0_phases v0_has v0_thrown : Int32) (r1 : Nat → Int32) (r2 : Nat → Int64) (r3 r4 : Nat → Int32) (sz : Nat)  (T : Int32 × Int32) (h : f_X10_nextRung v0_has r1 r2 r3 r4 = some T) : Met l yX10_nextRung (Cond.code yX10_nextRung cX10_nextRung 1 (some .int) :: TB) rm_X10_nextRung (PreW D cI cJ cC [(h0, .inr (10, [.ref h3, .ref h4, .ref h1, .ref kthis_lengths, .ref kthis_flows, .int v0_phases, .ref h2, .ref kthis_trial, .int v0_has, .int v0_thrown])), (h1, .inl (cI, 2, .inl r1)), (h2, .inl (cJ, 760, .inr (.inl r2))), (h3, .inl (cI, 15, .inl r3)), (h4, .inl (cI, 12, .inl r4))] sz [.ref h0]) (QW (some (.int T.1)) D [(h0, .inr (10, [.ref h3, .ref h4, .ref h1, .ref kthis_lengths, .ref kthis_flows, .int v0_phases, .ref h2, .ref kthis_trial, .int v0_has, .int T.2])), (h1, .inl (cI, 2, .inl r1)), (h2, .inl (cJ, 760, .inr (.inl r2))), (h3, .inl (cI, 15, .inl r3)), (h4, .inl (cI, 12, .inl r4))] (va_A [(h0, .inr (10, [.ref h3, .ref h4, .ref h1, .ref kthis_lengths, .ref kthis_flows, .int v0_phases, .ref h2, .ref kthis_trial, .int v0_has, .int v0_thrown])), (h1, .inl (cI, 2, .inl r1)), (h2, .inl (cJ, 760, .inr (.inl r2))), (h3, .inl (cI, 15, .inl r3)), (h4, .inl (cI, 12, .inl r4))] sz)) 0 0 (va_A [(h0, .inr (10, [.ref h3, .ref h4, .ref h1, .ref kthis_lengths, .ref kthis_flows, .int v0_phases, .ref h2, .ref kthis_trial, .int v0_has, .int v0_thrown])), (h1, .inl (cI, 2, .inl r1)), (h2, .inl (cJ, 760, .inr (.inl r2))), (h3, .inl (cI, 15, .inl r3)), (h4, .inl (cI, 12, .inl r4))] sz) := by
  refine metW (own := RX10) (by decide) rfl (Nat.le_of_ble_eq_true rfl) ?_
  intro p e s m below meth c S hr hlk hP hK A hAe hD hA hS ls hl
  clear hAe
  have hx := S.1
  have hb := S.2.1
  have hl : lv_has ls 1 [(0, .ref h0)] := hl
  refine lv_aload_n hx hb dX10_nextRung_0 rfl (lv_at hl 0 rfl) ?_
  refine lv_aload_n hx hb dX10_nextRung_1 rfl (lv_at hl 0 rfl) ?_
  refine gf_X10_53 (v := .int v0_has) S hK hP 0 rfl rfl dX10_nextRung_2 ?_
  refine lv_if_eq (tgt := 12) hx hb dX10_nextRung_5 (by decide) (fun c1 => ?_) (fun c1 => ?_)
  · have h := iteP c1 h
    refine lv_iconst (v := 1) hx hb dX10_nextRung_12 li_1 ?_
    refine pf_X10_33 (v := .int 1) S hK hP hD hS 0 rfl (Nat.le_of_ble_eq_true rfl) rfl dX10_nextRung_13 (fun H locs hP hD hS => ?_)
    have hP : va_P D vwCl [(h0, .inr (10, [.ref h3, .ref h4, .ref h1, .ref kthis_lengths, .ref kthis_flows, .int v0_phases, .ref h2, .ref kthis_trial, .int v0_has, .int 1])), (h1, .inl (cI, 2, .inl r1)), (h2, .inl (cJ, 760, .inr (.inl r2))), (h3, .inl (cI, 15, .inl r3)), (h4, .inl (cI, 12, .inl r4))] H := hP
    have hD : va_D A [(h0, .inr (10, [.ref h3, .ref h4, .ref h1, .ref kthis_lengths, .ref kthis_flows, .int v0_phases, .ref h2, .ref kthis_trial, .int v0_has, .int 1])), (h1, .inl (cI, 2, .inl r1)), (h2, .inl (cJ, 760, .inr (.inl r2))), (h3, .inl (cI, 15, .inl r3)), (h4, .inl (cI, 12, .inl r4))] := hD
    refine lv_aload_n hx hb dX10_nextRung_16 rfl (lv_at hl 0 rfl) ?_
    refine gf_X10_53 (v := .int v0_has) S hK hP 0 rfl rfl dX10_nextRung_17 ?_
    refine lv_if_eq (tgt := 42) hx hb dX10_nextRung_20 (by decide) (fun c2 => ?_) (fun c2 => ?_)
    · have h := iteP c2 h
      refine lv_iconst (v := 0) hx hb dX10_nextRung_42 li_0 ?_
      have h := Option.some.inj h
      subst h
      exact wRi S hr hlk (hP.sub [0, 1, 2, 3, 4] rfl) (hD.sub [0, 1, 2, 3, 4] (by decide) rfl) hS dX10_nextRung_43
    · have h := iteN c2 h
      refine lv_aload_n hx hb dX10_nextRung_23 rfl (lv_at hl 0 rfl) ?_
      refine lv_aload_n hx hb dX10_nextRung_24 rfl (lv_at hl 0 rfl) ?_
      refine gf_X10_25 (v := .ref h2) S hK hP 0 rfl rfl dX10_nextRung_25 ?_
      refine lv_aload_n hx hb dX10_nextRung_28 rfl (lv_at hl 0 rfl) ?_
      refine gf_X10_7 (v := .ref h3) S hK hP 0 rfl rfl dX10_nextRung_29 ?_
      refine lv_bipush (v := 12) hx hb dX10_nextRung_32 lb_12 ?_
      refine aldI (k := 12) (q0 := 3) S hK hP rfl vl_12_15 tn_12 dX10_nextRung_34 ?_
      obtain ⟨z3, e_z3, h⟩ := obnd_eq h
      refine rdV (pc1 := 38) (rest := []) (st1 := [.long z3]) S (c_X10_chosen l D cI cJ cC h0 h1 h3 h4 h2 kthis_lengths kthis_flows h2 kthis_trial v0_phases v0_has 1 r1 r3 r4 r2 (r3 12) z3 e_z3) (cw_X10_107 S.2.2.2.2 ⟨Nat.le_of_ble_eq_true rfl, Nat.le_of_ble_eq_true rfl⟩) hK (hP.sub [0, 1, 3, 4, 2] rfl) rfl rfl rfl rfl hl.1 rfl (Nat.le_of_ble_eq_true rfl) ⟨Nat.zero_le _, Nat.zero_le _⟩ rfl rfl dX10_nextRung_35 ?_
      refine lv_l2i hx hb dX10_nextRung_38 rfl ?_
      refine lv_goto (tgt := 43) hx hb dX10_nextRung_39 (by decide) ?_
      have h := Option.some.inj h
      subst h
      exact wRi S hr hlk (hP.sub [0, 1, 2, 3, 4] rfl) (hD.sub [0, 1, 2, 3, 4] (by decide) rfl) hS dX10_nextRung_43
  · have h := iteN c1 h
    refine lv_iconst (v := 0) hx hb dX10_nextRung_8 li_0 ?_
    refine lv_goto (tgt := 13) hx hb dX10_nextRung_9 (by decide) ?_
    refine pf_X10_33 (v := .int 0) S hK hP hD hS 0 rfl (Nat.le_of_ble_eq_true rfl) rfl dX10_nextRung_13 (fun H locs hP hD hS => ?_)
    have hP : va_P D vwCl [(h0, .inr (10, [.ref h3, .ref h4, .ref h1, .ref kthis_lengths, .ref kthis_flows, .int v0_phases, .ref h2, .ref kthis_trial, .int v0_has, .int 0])), (h1, .inl (cI, 2, .inl r1)), (h2, .inl (cJ, 760, .inr (.inl r2))), (h3, .inl (cI, 15, .inl r3)), (h4, .inl (cI, 12, .inl r4))] H := hP
    have hD : va_D A [(h0, .inr (10, [.ref h3, .ref h4, .ref h1, .ref kthis_lengths, .ref kthis_flows, .int v0_phases, .ref h2, .ref kthis_trial, .int v0_has, .int 0])), (h1, .inl (cI, 2, .inl r1)), (h2, .inl (cJ, 760, .inr (.inl r2))), (h3, .inl (cI, 15, .inl r3)), (h4, .inl (cI, 12, .inl r4))] := hD
    refine lv_aload_n hx hb dX10_nextRung_16 rfl (lv_at hl 0 rfl) ?_
    refine gf_X10_53 (v := .int v0_has) S hK hP 0 rfl rfl dX10_nextRung_17 ?_
    refine lv_if_eq (tgt := 42) hx hb dX10_nextRung_20 (by decide) (fun c4 => ?_) (fun c4 => ?_)
    · have h := iteP c4 h
      refine lv_iconst (v := 0) hx hb dX10_nextRung_42 li_0 ?_
      have h := Option.some.inj h
      subst h
      exact wRi S hr hlk (hP.sub [0, 1, 2, 3, 4] rfl) (hD.sub [0, 1, 2, 3, 4] (by decide) rfl) hS dX10_nextRung_43
    · have h := iteN c4 h
      refine lv_aload_n hx hb dX10_nextRung_23 rfl (lv_at hl 0 rfl) ?_
      refine lv_aload_n hx hb dX10_nextRung_24 rfl (lv_at hl 0 rfl) ?_
      refine gf_X10_25 (v := .ref h2) S hK hP 0 rfl rfl dX10_nextRung_25 ?_
      refine lv_aload_n hx hb dX10_nextRung_28 rfl (lv_at hl 0 rfl) ?_
      refine gf_X10_7 (v := .ref h3) S hK hP 0 rfl rfl dX10_nextRung_29 ?_
      refine lv_bipush (v := 12) hx hb dX10_nextRung_32 lb_12 ?_
      refine aldI (k := 12) (q0 := 3) S hK hP rfl vl_12_15 tn_12 dX10_nextRung_34 ?_
      obtain ⟨z5, e_z5, h⟩ := obnd_eq h
      refine rdV (pc1 := 38) (rest := []) (st1 := [.long z5]) S (c_X10_chosen l D cI cJ cC h0 h1 h3 h4 h2 kthis_lengths kthis_flows h2 kthis_trial v0_phases v0_has 0 r1 r3 r4 r2 (r3 12) z5 e_z5) (cw_X10_107 S.2.2.2.2 ⟨Nat.le_of_ble_eq_true rfl, Nat.le_of_ble_eq_true rfl⟩) hK (hP.sub [0, 1, 3, 4, 2] rfl) rfl rfl rfl rfl hl.1 rfl (Nat.le_of_ble_eq_true rfl) ⟨Nat.zero_le _, Nat.zero_le _⟩ rfl rfl dX10_nextRung_35 ?_
      refine lv_l2i hx hb dX10_nextRung_38 rfl ?_
      refine lv_goto (tgt := 43) hx hb dX10_nextRung_39 (by decide) ?_
      have h := Option.some.inj h
      subst h
      exact wRi S hr hlk (hP.sub [0, 1, 2, 3, 4] rfl) (hD.sub [0, 1, 2, 3, 4] (by decide) rfl) hS dX10_nextRung_43
abbrev rm_X10_latency : Room := { frames := 1, cells := 0, slots := 0, locals := 22 }
theorem dX10_latency_0 : decode cX10_latency 0 = .ok (.aload_n 0, 1) := by decide +kernel
theorem dX10_latency_1 : decode cX10_latency 1 = .ok (.aload_n 0, 1) := by decide +kernel
theorem dX10_latency_2 : decode cX10_latency 2 = .ok (.getfield 7, 3) := by decide +kernel
theorem dX10_latency_5 : decode cX10_latency 5 = .ok (.bipush 13, 2) := by decide +kernel
theorem dX10_latency_7 : decode cX10_latency 7 = .ok (.iaload, 1) := by decide +kernel
theorem dX10_latency_8 : decode cX10_latency 8 = .ok (.ifCond .ne 9, 3) := by decide +kernel
theorem dX10_latency_11 : decode cX10_latency 11 = .ok (.ldc2_w 122, 3) := by decide +kernel
theorem dX10_latency_14 : decode cX10_latency 14 = .ok (.goto 25, 3) := by decide +kernel
theorem dX10_latency_17 : decode cX10_latency 17 = .ok (.aload_n 0, 1) := by decide +kernel
theorem dX10_latency_18 : decode cX10_latency 18 = .ok (.getfield 25, 3) := by decide +kernel
theorem dX10_latency_21 : decode cX10_latency 21 = .ok (.iconst 0, 1) := by decide +kernel
theorem dX10_latency_22 : decode cX10_latency 22 = .ok (.laload, 1) := by decide +kernel
theorem dX10_latency_23 : decode cX10_latency 23 = .ok (.aload_n 0, 1) := by decide +kernel
theorem dX10_latency_24 : decode cX10_latency 24 = .ok (.getfield 7, 3) := by decide +kernel
theorem dX10_latency_27 : decode cX10_latency 27 = .ok (.bipush 13, 2) := by decide +kernel
theorem dX10_latency_29 : decode cX10_latency 29 = .ok (.iaload, 1) := by decide +kernel
theorem dX10_latency_30 : decode cX10_latency 30 = .ok (.i2l, 1) := by decide +kernel
theorem dX10_latency_31 : decode cX10_latency 31 = .ok (.ladd, 1) := by decide +kernel
theorem dX10_latency_32 : decode cX10_latency 32 = .ok (.aload_n 0, 1) := by decide +kernel
theorem dX10_latency_33 : decode cX10_latency 33 = .ok (.getfield 25, 3) := by decide +kernel
theorem dX10_latency_36 : decode cX10_latency 36 = .ok (.iconst 1, 1) := by decide +kernel
theorem dX10_latency_37 : decode cX10_latency 37 = .ok (.laload, 1) := by decide +kernel
theorem dX10_latency_38 : decode cX10_latency 38 = .ok (.lsub, 1) := by decide +kernel
theorem dX10_latency_39 : decode cX10_latency 39 = .ok (.invokevirtual 179, 3) := by decide +kernel
theorem dX10_latency_42 : decode cX10_latency 42 = .ok (.l2i, 1) := by decide +kernel
theorem dX10_latency_43 : decode cX10_latency 43 = .ok (.ireturn, 1) := by decide +kernel
def f_X10_latency (v0_has : Int32) (r1 : Nat → Int64) (r2 : Nat → Int32) : Int32 × Int32 :=
  if (r2 13) = 0 then
    bnd2 (f_X10_told v0_has (-1)) fun (z4 : Int64) (y5 : Int32) =>
    (z4.toInt32, y5)
  else
    bnd2 (f_X10_told v0_has (((r1 0) + ((r2 13).toInt64)) - (r1 1))) fun (z2 : Int64) (y3 : Int32) =>
    (z2.toInt32, y3)
set_option maxHeartbeats 4000000 in
set_option maxRecDepth 100000 in
theorem c_X10_latency (l : Launch) (D : va_G) (cI cJ cC : ClassId) (h0 h1 h2 kthis_rates kthis_ladder kthis_lengths kthis_flows kthis_trial : Nat) (v0_phases v0_has v0_thrown : Int32) (r1 : Nat → Int64) (r2 : Nat → Int32) (sz : Nat)  (T : Int32 × Int32) (h : f_X10_latency v0_has r1 r2 = T) : Met l yX10_latency (Cond.code yX10_latency cX10_latency 1 (some .int) :: TB) rm_X10_latency (PreW D cI cJ cC [(h0, .inr (10, [.ref h2, .ref kthis_rates, .ref kthis_ladder, .ref kthis_lengths, .ref kthis_flows, .int v0_phases, .ref h1, .ref kthis_trial, .int v0_has, .int v0_thrown])), (h1, .inl (cJ, 760, .inr (.inl r1))), (h2, .inl (cI, 15, .inl r2))] sz [.ref h0]) (QW (some (.int T.1)) D [(h0, .inr (10, [.ref h2, .ref kthis_rates, .ref kthis_ladder, .ref kthis_lengths, .ref kthis_flows, .int v0_phases, .ref h1, .ref kthis_trial, .int v0_has, .int T.2])), (h1, .inl (cJ, 760, .inr (.inl r1))), (h2, .inl (cI, 15, .inl r2))] (va_A [(h0, .inr (10, [.ref h2, .ref kthis_rates, .ref kthis_ladder, .ref kthis_lengths, .ref kthis_flows, .int v0_phases, .ref h1, .ref kthis_trial, .int v0_has, .int v0_thrown])), (h1, .inl (cJ, 760, .inr (.inl r1))), (h2, .inl (cI, 15, .inl r2))] sz)) 0 0 (va_A [(h0, .inr (10, [.ref h2, .ref kthis_rates, .ref kthis_ladder, .ref kthis_lengths, .ref kthis_flows, .int v0_phases, .ref h1, .ref kthis_trial, .int v0_has, .int v0_thrown])), (h1, .inl (cJ, 760, .inr (.inl r1))), (h2, .inl (cI, 15, .inl r2))] sz) := by
  refine metW (own := RX10) (by decide) rfl (Nat.le_of_ble_eq_true rfl) ?_
  intro p e s m below meth c S hr hlk hP hK A hAe hD hA hS ls hl
  clear hAe
  have hx := S.1
  have hb := S.2.1
  have hl : lv_has ls 1 [(0, .ref h0)] := hl
  refine lv_aload_n hx hb dX10_latency_0 rfl (lv_at hl 0 rfl) ?_
  refine lv_aload_n hx hb dX10_latency_1 rfl (lv_at hl 0 rfl) ?_
  refine gf_X10_7 (v := .ref h2) S hK hP 0 rfl rfl dX10_latency_2 ?_
  refine lv_bipush (v := 13) hx hb dX10_latency_5 lb_13 ?_
  refine aldI (k := 13) (q0 := 2) S hK hP rfl vl_13_15 tn_13 dX10_latency_7 ?_
  refine lv_if_ne (tgt := 17) hx hb dX10_latency_8 (by decide) (fun c1 => ?_) (fun c1 => ?_)
  · have h := iteN c1 h
    refine lv_aload_n hx hb dX10_latency_17 rfl (lv_at hl 0 rfl) ?_
    refine gf_X10_25 (v := .ref h1) S hK hP 0 rfl rfl dX10_latency_18 ?_
    refine lv_iconst (v := 0) hx hb dX10_latency_21 li_0 ?_
    refine aldJ (k := 0) (q0 := 1) S hK hP rfl vl_0_760 tn_0 dX10_latency_22 ?_
    refine lv_aload_n hx hb dX10_latency_23 rfl (lv_at hl 0 rfl) ?_
    refine gf_X10_7 (v := .ref h2) S hK hP 0 rfl rfl dX10_latency_24 ?_
    refine lv_bipush (v := 13) hx hb dX10_latency_27 lb_13 ?_
    refine aldI (k := 13) (q0 := 2) S hK hP rfl vl_13_15 tn_13 dX10_latency_29 ?_
    refine lv_i2l hx hb dX10_latency_30 rfl ?_
    refine lv_ladd hx hb dX10_latency_31 ?_
    refine lv_aload_n hx hb dX10_latency_32 rfl (lv_at hl 0 rfl) ?_
    refine gf_X10_25 (v := .ref h1) S hK hP 0 rfl rfl dX10_latency_33 ?_
    refine lv_iconst (v := 1) hx hb dX10_latency_36 li_1 ?_
    refine aldJ (k := 1) (q0 := 1) S hK hP rfl vl_1_760 tn_1 dX10_latency_37 ?_
    refine lv_lsub hx hb dX10_latency_38 ?_
    obtain ⟨z2, y3, e_z2⟩ : ∃ a0 a1, f_X10_told v0_has (((r1 0) + ((r2 13).toInt64)) - (r1 1)) = (a0, a1) := ⟨_, _, rfl⟩
    have h := bnd2_eq e_z2 h
    refine wrV (pc1 := 42) (rest := []) (st1 := [.long z2]) (wr := [(h1, .inl (cJ, 760, .inr (.inl r1))), (h2, .inl (cI, 15, .inl r2))]) S (c_X10_told l D cI cJ cC h0 h2 kthis_rates kthis_ladder kthis_lengths kthis_flows h1 kthis_trial v0_phases v0_has v0_thrown s.heap.size (((r1 0) + ((r2 13).toInt64)) - (r1 1)) (z2, y3) e_z2) (cw_X10_179 S.2.2.2.2 ⟨Nat.le_of_ble_eq_true rfl, Nat.le_of_ble_eq_true rfl⟩) hK hP hD hS hA [0] [1, 2] rfl rfl rfl (by decide) (by decide) (by decide) rfl rfl rfl rfl hl.1 rfl (Nat.le_of_ble_eq_true rfl) ⟨Nat.zero_le _, Nat.zero_le _⟩ rfl rfl dX10_latency_39 (fun H locs hP hD hS => ?_)
    have hP : va_P D vwCl [(h1, .inl (cJ, 760, .inr (.inl r1))), (h2, .inl (cI, 15, .inl r2)), (h0, .inr (10, [.ref h2, .ref kthis_rates, .ref kthis_ladder, .ref kthis_lengths, .ref kthis_flows, .int v0_phases, .ref h1, .ref kthis_trial, .int v0_has, .int y3]))] H := hP
    have hD : va_D A [(h1, .inl (cJ, 760, .inr (.inl r1))), (h2, .inl (cI, 15, .inl r2)), (h0, .inr (10, [.ref h2, .ref kthis_rates, .ref kthis_ladder, .ref kthis_lengths, .ref kthis_flows, .int v0_phases, .ref h1, .ref kthis_trial, .int v0_has, .int y3]))] := hD
    refine lv_l2i hx hb dX10_latency_42 rfl ?_
    subst h
    exact wRi S hr hlk (hP.sub [2, 0, 1] rfl) (hD.sub [2, 0, 1] (by decide) rfl) hS dX10_latency_43
  · have h := iteP c1 h
    refine lv_ldc2 (v := (-1)) hx hb S.2.2.2.1 (S.2.2.2.2 _ tb1060) dX10_latency_11 ?_
    refine lv_goto (tgt := 39) hx hb dX10_latency_14 (by decide) ?_
    obtain ⟨z4, y5, e_z4⟩ : ∃ a0 a1, f_X10_told v0_has (-1) = (a0, a1) := ⟨_, _, rfl⟩
    have h := bnd2_eq e_z4 h
    refine wrV (pc1 := 42) (rest := []) (st1 := [.long z4]) (wr := [(h1, .inl (cJ, 760, .inr (.inl r1))), (h2, .inl (cI, 15, .inl r2))]) S (c_X10_told l D cI cJ cC h0 h2 kthis_rates kthis_ladder kthis_lengths kthis_flows h1 kthis_trial v0_phases v0_has v0_thrown s.heap.size (-1) (z4, y5) e_z4) (cw_X10_179 S.2.2.2.2 ⟨Nat.le_of_ble_eq_true rfl, Nat.le_of_ble_eq_true rfl⟩) hK hP hD hS hA [0] [1, 2] rfl rfl rfl (by decide) (by decide) (by decide) rfl rfl rfl rfl hl.1 rfl (Nat.le_of_ble_eq_true rfl) ⟨Nat.zero_le _, Nat.zero_le _⟩ rfl rfl dX10_latency_39 (fun H locs hP hD hS => ?_)
    have hP : va_P D vwCl [(h1, .inl (cJ, 760, .inr (.inl r1))), (h2, .inl (cI, 15, .inl r2)), (h0, .inr (10, [.ref h2, .ref kthis_rates, .ref kthis_ladder, .ref kthis_lengths, .ref kthis_flows, .int v0_phases, .ref h1, .ref kthis_trial, .int v0_has, .int y5]))] H := hP
    have hD : va_D A [(h1, .inl (cJ, 760, .inr (.inl r1))), (h2, .inl (cI, 15, .inl r2)), (h0, .inr (10, [.ref h2, .ref kthis_rates, .ref kthis_ladder, .ref kthis_lengths, .ref kthis_flows, .int v0_phases, .ref h1, .ref kthis_trial, .int v0_has, .int y5]))] := hD
    refine lv_l2i hx hb dX10_latency_42 rfl ?_
    subst h
    exact wRi S hr hlk (hP.sub [2, 0, 1] rfl) (hD.sub [2, 0, 1] (by decide) rfl) hS dX10_latency_43
abbrev rm_X10_spent : Room := { frames := 1, cells := 0, slots := 0, locals := 25 }
theorem dX10_spent_0 : decode cX10_spent 0 = .ok (.aload_n 0, 1) := by decide +kernel
theorem dX10_spent_1 : decode cX10_spent 1 = .ok (.iload_n 1, 1) := by decide +kernel
theorem dX10_spent_2 : decode cX10_spent 2 = .ok (.i2l, 1) := by decide +kernel
theorem dX10_spent_3 : decode cX10_spent 3 = .ok (.lconst 0, 1) := by decide +kernel
theorem dX10_spent_4 : decode cX10_spent 4 = .ok (.ldc2_w 131, 3) := by decide +kernel
theorem dX10_spent_7 : decode cX10_spent 7 = .ok (.invokestatic 39, 3) := by decide +kernel
theorem dX10_spent_10 : decode cX10_spent 10 = .ok (.invokevirtual 183, 3) := by decide +kernel
theorem dX10_spent_13 : decode cX10_spent 13 = .ok (.ifCond .eq 7, 3) := by decide +kernel
theorem dX10_spent_16 : decode cX10_spent 16 = .ok (.iconst 0, 1) := by decide +kernel
theorem dX10_spent_17 : decode cX10_spent 17 = .ok (.goto 13, 3) := by decide +kernel
theorem dX10_spent_20 : decode cX10_spent 20 = .ok (.aload_n 0, 1) := by decide +kernel
theorem dX10_spent_21 : decode cX10_spent 21 = .ok (.getfield 25, 3) := by decide +kernel
theorem dX10_spent_24 : decode cX10_spent 24 = .ok (.bipush 15, 2) := by decide +kernel
theorem dX10_spent_26 : decode cX10_spent 26 = .ok (.iload_n 1, 1) := by decide +kernel
theorem dX10_spent_27 : decode cX10_spent 27 = .ok (.iadd, 1) := by decide +kernel
theorem dX10_spent_28 : decode cX10_spent 28 = .ok (.laload, 1) := by decide +kernel
theorem dX10_spent_29 : decode cX10_spent 29 = .ok (.l2i, 1) := by decide +kernel
theorem dX10_spent_30 : decode cX10_spent 30 = .ok (.ireturn, 1) := by decide +kernel
def f_X10_spent (v0_has : Int32) (r1 : Nat → Int64) (p0 : Int32) : Option (Int32 × Int32) :=
  bnd2 (f_X10_isWrong v0_has (f_X10_in p0.toInt64 0 2)) fun (y1 : Int32) (y2 : Int32) =>
  if y1 = 0 then
    grd (vin (15 + p0) 760) <|
    some ((r1 (15 + p0).toNatClampNeg).toInt32, y2)
  else
    some (0, y2)
set_option maxHeartbeats 4000000 in
set_option maxRecDepth 100000 in
theorem c_X10_spent (l : Launch) (D : va_G) (cI cJ cC : ClassId) (h0 h1 kthis_p kthis_rates kthis_ladder kthis_lengths kthis_flows kthis_trial : Nat) (v0_phases v0_has v0_thrown : Int32) (r1 : Nat → Int64) (sz : Nat) (p0 : Int32) (T : Int32 × Int32) (h : f_X10_spent v0_has r1 p0 = some T) : Met l yX10_spent (Cond.code yX10_spent cX10_spent 2 (some .int) :: TB) rm_X10_spent (PreW D cI cJ cC [(h0, .inr (10, [.ref kthis_p, .ref kthis_rates, .ref kthis_ladder, .ref kthis_lengths, .ref kthis_flows, .int v0_phases, .ref h1, .ref kthis_trial, .int v0_has, .int v0_thrown])), (h1, .inl (cJ, 760, .inr (.inl r1)))] sz [.ref h0, .int p0]) (QW (some (.int T.1)) D [(h0, .inr (10, [.ref kthis_p, .ref kthis_rates, .ref kthis_ladder, .ref kthis_lengths, .ref kthis_flows, .int v0_phases, .ref h1, .ref kthis_trial, .int v0_has, .int T.2])), (h1, .inl (cJ, 760, .inr (.inl r1)))] (va_A [(h0, .inr (10, [.ref kthis_p, .ref kthis_rates, .ref kthis_ladder, .ref kthis_lengths, .ref kthis_flows, .int v0_phases, .ref h1, .ref kthis_trial, .int v0_has, .int v0_thrown])), (h1, .inl (cJ, 760, .inr (.inl r1)))] sz)) 0 0 (va_A [(h0, .inr (10, [.ref kthis_p, .ref kthis_rates, .ref kthis_ladder, .ref kthis_lengths, .ref kthis_flows, .int v0_phases, .ref h1, .ref kthis_trial, .int v0_has, .int v0_thrown])), (h1, .inl (cJ, 760, .inr (.inl r1)))] sz) := by
  refine metW (own := RX10) (by decide) rfl (Nat.le_of_ble_eq_true rfl) ?_
  intro p e s m below meth c S hr hlk hP hK A hAe hD hA hS ls hl
  clear hAe
  have hx := S.1
  have hb := S.2.1
  have hl : lv_has ls 2 [(0, .ref h0), (1, .int p0)] := hl
  refine lv_aload_n hx hb dX10_spent_0 rfl (lv_at hl 0 rfl) ?_
  refine lv_iload_n hx hb dX10_spent_1 rfl (lv_at hl 1 rfl) ?_
  refine lv_i2l hx hb dX10_spent_2 rfl ?_
  refine lv_lconst (v := 0) hx hb dX10_spent_3 rfl ?_
  refine lv_ldc2 (v := 2) hx hb S.2.2.2.1 (S.2.2.2.2 _ tb1082) dX10_spent_4 ?_
  refine rdS (pc1 := 10) (rest := [.ref h0]) (st1 := [.int (f_X10_in p0.toInt64 0 2), .ref h0]) S (c_X10_in l D cI cJ cC  p0.toInt64 0 2 _ rfl) (cw_X10_39 S.2.2.2.2 ⟨Nat.le_of_ble_eq_true rfl, Nat.le_of_ble_eq_true rfl⟩) hK (hP.sub [] rfl) rfl hl.1 rfl (Nat.le_of_ble_eq_true rfl) ⟨Nat.zero_le _, Nat.zero_le _⟩ rfl rfl dX10_spent_7 ?_
  obtain ⟨y1, y2, e_y1⟩ : ∃ a0 a1, f_X10_isWrong v0_has (f_X10_in p0.toInt64 0 2) = (a0, a1) := ⟨_, _, rfl⟩
  have h := bnd2_eq e_y1 h
  refine wrV (pc1 := 13) (rest := []) (st1 := [.int y1]) (wr := [(h1, .inl (cJ, 760, .inr (.inl r1)))]) S (c_X10_isWrong l D cI cJ cC h0 kthis_p kthis_rates kthis_ladder kthis_lengths kthis_flows h1 kthis_trial v0_phases v0_has v0_thrown s.heap.size (f_X10_in p0.toInt64 0 2) (y1, y2) e_y1) (cw_X10_183 S.2.2.2.2 ⟨Nat.le_of_ble_eq_true rfl, Nat.le_of_ble_eq_true rfl⟩) hK hP hD hS hA [0] [1] rfl rfl rfl (by decide) (by decide) (by decide) rfl rfl rfl rfl hl.1 rfl (Nat.le_of_ble_eq_true rfl) ⟨Nat.zero_le _, Nat.zero_le _⟩ rfl rfl dX10_spent_10 (fun H locs hP hD hS => ?_)
  have hP : va_P D vwCl [(h1, .inl (cJ, 760, .inr (.inl r1))), (h0, .inr (10, [.ref kthis_p, .ref kthis_rates, .ref kthis_ladder, .ref kthis_lengths, .ref kthis_flows, .int v0_phases, .ref h1, .ref kthis_trial, .int v0_has, .int y2]))] H := hP
  have hD : va_D A [(h1, .inl (cJ, 760, .inr (.inl r1))), (h0, .inr (10, [.ref kthis_p, .ref kthis_rates, .ref kthis_ladder, .ref kthis_lengths, .ref kthis_flows, .int v0_phases, .ref h1, .ref kthis_trial, .int v0_has, .int y2]))] := hD
  refine lv_if_eq (tgt := 20) hx hb dX10_spent_13 (by decide) (fun c3 => ?_) (fun c3 => ?_)
  · have h := iteP c3 h
    refine lv_aload_n hx hb dX10_spent_20 rfl (lv_at hl 0 rfl) ?_
    refine gf_X10_25 (v := .ref h1) S hK hP 1 rfl rfl dX10_spent_21 ?_
    refine lv_bipush (v := 15) hx hb dX10_spent_24 lb_15 ?_
    refine lv_iload_n hx hb dX10_spent_26 rfl (lv_at hl 1 rfl) ?_
    refine lv_iadd hx hb dX10_spent_27 ?_
    obtain ⟨g4, h⟩ := grd_eq h
    refine aldJ (k := (15 + p0).toNatClampNeg) (q0 := 0) S hK hP rfl (vin_in g4) rfl dX10_spent_28 ?_
    refine lv_l2i hx hb dX10_spent_29 rfl ?_
    have h := Option.some.inj h
    subst h
    exact wRi S hr hlk (hP.sub [1, 0] rfl) (hD.sub [1, 0] (by decide) rfl) hS dX10_spent_30
  · have h := iteN c3 h
    refine lv_iconst (v := 0) hx hb dX10_spent_16 li_0 ?_
    refine lv_goto (tgt := 30) hx hb dX10_spent_17 (by decide) ?_
    have h := Option.some.inj h
    subst h
    exact wRi S hr hlk (hP.sub [1, 0] rfl) (hD.sub [1, 0] (by decide) rfl) hS dX10_spent_30
