abbrev rm_X6_shelfOf : Room := { frames := 0, cells := 0, slots := 0, locals := 0 }
theorem dX6_shelfOf_0 : decode cX6_shelfOf 0 = .ok (.iload_n 1, 1) := by decide +kernel
theorem dX6_shelfOf_1 : decode cX6_shelfOf 1 = .ok (.ifCond .ne 10, 3) := by decide +kernel
theorem dX6_shelfOf_4 : decode cX6_shelfOf 4 = .ok (.aload_n 0, 1) := by decide +kernel
theorem dX6_shelfOf_5 : decode cX6_shelfOf 5 = .ok (.getfield 12, 3) := by decide +kernel
theorem dX6_shelfOf_8 : decode cX6_shelfOf 8 = .ok (.goto 7, 3) := by decide +kernel
theorem dX6_shelfOf_11 : decode cX6_shelfOf 11 = .ok (.aload_n 0, 1) := by decide +kernel
theorem dX6_shelfOf_12 : decode cX6_shelfOf 12 = .ok (.getfield 18, 3) := by decide +kernel
theorem dX6_shelfOf_15 : decode cX6_shelfOf 15 = .ok (.areturn, 1) := by decide +kernel
set_option maxHeartbeats 4000000 in
set_option maxRecDepth 100000 in
theorem c_X6_shelfOf_0 (l : Launch) (D : va_G) (cI cJ cC : ClassId) (h0 kthis_stream kthis_video kthis_audio kthis_samples kthis_download kthis_accounts kthis_line : Nat) (v0_mode v0_startThreshold v0_lastRung v0_lastChange v0_state v0_time v0_position : Int32) (p0 : Int32) (hv : p0 = 0) : Met l yX6_shelfOf (Cond.code yX6_shelfOf cX6_shelfOf 2 (some (.object "StreamPlayer$Shelf")) :: TB) rm_X6_shelfOf (PreR D cI cJ cC [(h0, .inr (6, [.ref kthis_stream, .ref kthis_video, .ref kthis_audio, .ref kthis_samples, .ref kthis_download, .ref kthis_accounts, .ref kthis_line, .int v0_mode, .int v0_startThreshold, .int v0_lastRung, .int v0_lastChange, .int v0_state, .int v0_time, .int v0_position]))] [.ref h0, .int p0]) (QR (some (.ref kthis_video))) 0 0 free0 := by
  refine metR (own := RX6) (by decide) rfl (Nat.le_of_ble_eq_true rfl) ?_
  intro p e s m below meth c S hr hlk hP hK ls hl
  have hx := S.1
  have hb := S.2.1
  have hl : lv_has ls 2 [(0, .ref h0), (1, .int p0)] := hl
  refine lv_iload_n hx hb dX6_shelfOf_0 rfl (lv_at hl 1 rfl) ?_
  refine lv_if_ne (tgt := 11) hx hb dX6_shelfOf_1 (by decide) (fun c9 => absurd hv c9) (fun _ => ?_)
  refine lv_aload_n hx hb dX6_shelfOf_4 rfl (lv_at hl 0 rfl) ?_
  refine gf_X6_12 (v := .ref kthis_video) S hK hP 0 rfl rfl dX6_shelfOf_5 ?_
  refine lv_goto (tgt := 15) hx hb dX6_shelfOf_8 (by decide) ?_
  exact rRa S hr hlk dX6_shelfOf_15
set_option maxHeartbeats 4000000 in
set_option maxRecDepth 100000 in
theorem c_X6_shelfOf_1 (l : Launch) (D : va_G) (cI cJ cC : ClassId) (h0 kthis_stream kthis_video kthis_audio kthis_samples kthis_download kthis_accounts kthis_line : Nat) (v0_mode v0_startThreshold v0_lastRung v0_lastChange v0_state v0_time v0_position : Int32) (p0 : Int32) (hv : ¬ p0 = 0) : Met l yX6_shelfOf (Cond.code yX6_shelfOf cX6_shelfOf 2 (some (.object "StreamPlayer$Shelf")) :: TB) rm_X6_shelfOf (PreR D cI cJ cC [(h0, .inr (6, [.ref kthis_stream, .ref kthis_video, .ref kthis_audio, .ref kthis_samples, .ref kthis_download, .ref kthis_accounts, .ref kthis_line, .int v0_mode, .int v0_startThreshold, .int v0_lastRung, .int v0_lastChange, .int v0_state, .int v0_time, .int v0_position]))] [.ref h0, .int p0]) (QR (some (.ref kthis_audio))) 0 0 free0 := by
  refine metR (own := RX6) (by decide) rfl (Nat.le_of_ble_eq_true rfl) ?_
  intro p e s m below meth c S hr hlk hP hK ls hl
  have hx := S.1
  have hb := S.2.1
  have hl : lv_has ls 2 [(0, .ref h0), (1, .int p0)] := hl
  refine lv_iload_n hx hb dX6_shelfOf_0 rfl (lv_at hl 1 rfl) ?_
  refine lv_if_ne (tgt := 11) hx hb dX6_shelfOf_1 (by decide) (fun _ => ?_) (fun c9 => absurd c9 hv)
  refine lv_aload_n hx hb dX6_shelfOf_11 rfl (lv_at hl 0 rfl) ?_
  refine gf_X6_18 (v := .ref kthis_audio) S hK hP 0 rfl rfl dX6_shelfOf_12 ?_
  exact rRa S hr hlk dX6_shelfOf_15
abbrev rm_X6_bufferOf : Room := { frames := 1, cells := 0, slots := 0, locals := 21 }
theorem dX6_bufferOf_0 : decode cX6_bufferOf 0 = .ok (.aload_n 0, 1) := by decide +kernel
theorem dX6_bufferOf_1 : decode cX6_bufferOf 1 = .ok (.getfield 53, 3) := by decide +kernel
theorem dX6_bufferOf_4 : decode cX6_bufferOf 4 = .ok (.iload_n 1, 1) := by decide +kernel
theorem dX6_bufferOf_5 : decode cX6_bufferOf 5 = .ok (.invokevirtual 167, 3) := by decide +kernel
theorem dX6_bufferOf_8 : decode cX6_bufferOf 8 = .ok (.getfield 171, 3) := by decide +kernel
theorem dX6_bufferOf_11 : decode cX6_bufferOf 11 = .ok (.ifCond .ne 5, 3) := by decide +kernel
theorem dX6_bufferOf_14 : decode cX6_bufferOf 14 = .ok (.iconst 0, 1) := by decide +kernel
theorem dX6_bufferOf_15 : decode cX6_bufferOf 15 = .ok (.ireturn, 1) := by decide +kernel
theorem dX6_bufferOf_16 : decode cX6_bufferOf 16 = .ok (.aload_n 0, 1) := by decide +kernel
theorem dX6_bufferOf_17 : decode cX6_bufferOf 17 = .ok (.iload_n 1, 1) := by decide +kernel
theorem dX6_bufferOf_18 : decode cX6_bufferOf 18 = .ok (.invokevirtual 163, 3) := by decide +kernel
theorem dX6_bufferOf_21 : decode cX6_bufferOf 21 = .ok (.getfield 145, 3) := by decide +kernel
theorem dX6_bufferOf_24 : decode cX6_bufferOf 24 = .ok (.aload_n 0, 1) := by decide +kernel
theorem dX6_bufferOf_25 : decode cX6_bufferOf 25 = .ok (.getfield 53, 3) := by decide +kernel
theorem dX6_bufferOf_28 : decode cX6_bufferOf 28 = .ok (.iconst 0, 1) := by decide +kernel
theorem dX6_bufferOf_29 : decode cX6_bufferOf 29 = .ok (.invokevirtual 176, 3) := by decide +kernel
theorem dX6_bufferOf_32 : decode cX6_bufferOf 32 = .ok (.imul, 1) := by decide +kernel
theorem dX6_bufferOf_33 : decode cX6_bufferOf 33 = .ok (.aload_n 0, 1) := by decide +kernel
theorem dX6_bufferOf_34 : decode cX6_bufferOf 34 = .ok (.getfield 82, 3) := by decide +kernel
theorem dX6_bufferOf_37 : decode cX6_bufferOf 37 = .ok (.isub, 1) := by decide +kernel
theorem dX6_bufferOf_38 : decode cX6_bufferOf 38 = .ok (.ireturn, 1) := by decide +kernel
theorem cw_X6_167 {R : Room} {s : State} {args : Array Value} (hts : ∀ w ∈ TB, w.before args s = true) (hR : rm_X8_ladderOf.frames + 1 ≤ R.frames ∧ 8 + (2 + 11) + rm_X8_ladderOf.locals ≤ R.locals) : CallW R s args RX6 RX8 167 yX8_ladderOf cX8_ladderOf 2 (some (.object "StreamPlayer$Ladder")) (Cond.code yX8_ladderOf cX8_ladderOf 2 (some (.object "StreamPlayer$Ladder")) :: TB) rm_X8_ladderOf 0 0 1 := cwV 1 hts (gV tb415 tb416 tb417 tb22 tb418) rfl rfl rfl ⟨rfl, by decide, by decide, by decide +kernel⟩ hR
theorem gf_X6_171 {p : Program} {l : Launch} {e : Env} {R : Room} {s : State} {m : MethodId} {args : Array Value} {below : List Frame} {meth : Method} {c : Code} {H : Heap} {locs : List Loc} {cells slots : Nat} {Q : State → Prop} {cc : ByteArray} {pc nL : Nat} {ls : Array Slot} {rest : List Value} {D : va_G} {ws : va_W} {tys : List (ClassId × FieldType)} (S : CallFix p m c cc nL s args TB RX6) (hK : va_K D vwCl tys s) (hP : va_P D vwCl ws H) (q0 : Nat) {a : Nat} {fs : List Value} (he : ws[q0]? = some (a, .inr (2, fs))) {v : Value} (hv : fs[2]? = some v) (hdg : decode cc pc = .ok (.getfield 171, 3))
    (kk : W p l e R s m args below meth c H locs cells slots Q (F0 m (pc + 3) ls (v :: rest))) : W p l e R s m args below meth c H locs cells slots Q (F0 m pc ls (.ref a :: rest)) :=
  va_get (D := D) (ci := 2) (C := RX2) (T := TX2) (N := 3) S.1 S.2.1 S.2.2.2.2 iwX2 S.2.2.2.1 hK hP q0 he rfl 2 (by decide) (S.2.2.2.2 _ tb69) (fun _ h9 => h9) hv hdg kk
theorem cw_X6_163 {R : Room} {s : State} {args : Array Value} (hts : ∀ w ∈ TB, w.before args s = true) (hR : rm_X6_shelfOf.frames + 1 ≤ R.frames ∧ 8 + (2 + 11) + rm_X6_shelfOf.locals ≤ R.locals) : CallW R s args RX6 RX6 163 yX6_shelfOf cX6_shelfOf 2 (some (.object "StreamPlayer$Shelf")) (Cond.code yX6_shelfOf cX6_shelfOf 2 (some (.object "StreamPlayer$Shelf")) :: TB) rm_X6_shelfOf 0 0 1 := cwV 1 hts (gV tb419 tb420 tb421 tb25 tb422) rfl rfl rfl ⟨rfl, by decide, by decide, by decide +kernel⟩ hR
theorem gf_X6_145 {p : Program} {l : Launch} {e : Env} {R : Room} {s : State} {m : MethodId} {args : Array Value} {below : List Frame} {meth : Method} {c : Code} {H : Heap} {locs : List Loc} {cells slots : Nat} {Q : State → Prop} {cc : ByteArray} {pc nL : Nat} {ls : Array Slot} {rest : List Value} {D : va_G} {ws : va_W} {tys : List (ClassId × FieldType)} (S : CallFix p m c cc nL s args TB RX6) (hK : va_K D vwCl tys s) (hP : va_P D vwCl ws H) (q0 : Nat) {a : Nat} {fs : List Value} (he : ws[q0]? = some (a, .inr (7, fs))) {v : Value} (hv : fs[1]? = some v) (hdg : decode cc pc = .ok (.getfield 145, 3))
    (kk : W p l e R s m args below meth c H locs cells slots Q (F0 m (pc + 3) ls (v :: rest))) : W p l e R s m args below meth c H locs cells slots Q (F0 m pc ls (.ref a :: rest)) :=
  va_get (D := D) (ci := 7) (C := RX7) (T := TX7) (N := 2) S.1 S.2.1 S.2.2.2.2 iwX7 S.2.2.2.1 hK hP q0 he rfl 1 (by decide) (S.2.2.2.2 _ tb128) (fun _ h9 => h9) hv hdg kk
theorem cw_X6_176 {R : Room} {s : State} {args : Array Value} (hts : ∀ w ∈ TB, w.before args s = true) (hR : rm_X8_valueOf.frames + 1 ≤ R.frames ∧ 8 + (2 + 11) + rm_X8_valueOf.locals ≤ R.locals) : CallW R s args RX6 RX8 176 yX8_valueOf cX8_valueOf 2 (some .int) (Cond.code yX8_valueOf cX8_valueOf 2 (some .int) :: TB) rm_X8_valueOf 0 0 1 := cwV 1 hts (gV tb423 tb424 tb425 tb22 tb426) rfl rfl rfl ⟨rfl, by decide, by decide, by decide +kernel⟩ hR
def f_X6_bufferOf_0 (v0_position : Int32) (r2 : Nat → Int32) (v3_rungs v4_segments : Int32) : Int32 :=
  if v3_rungs = 0 then
    0
  else
    (v4_segments * (f_X8_valueOf r2 0)) - v0_position
set_option maxHeartbeats 4000000 in
set_option maxRecDepth 100000 in
theorem c_X6_bufferOf_0 (l : Launch) (D : va_G) (cI cJ cC : ClassId) (h0 h1 h2 h3 h4 kthis_audio kthis_samples kthis_download kthis_accounts kthis_line kthis_stream_audio kthis_stream_plan kthis_stream_video_rates kthis_video_rungs : Nat) (v0_mode v0_startThreshold v0_lastRung v0_lastChange v0_state v0_time v0_position : Int32) (r2 : Nat → Int32) (v3_most v3_rungs v4_segments : Int32) (p0 : Int32) (hv : p0 = 0) (t0 : Int32) (h : f_X6_bufferOf_0 v0_position r2 v3_rungs v4_segments = t0) : Met l yX6_bufferOf (Cond.code yX6_bufferOf cX6_bufferOf 2 (some .int) :: TB) rm_X6_bufferOf (PreR D cI cJ cC [(h0, .inr (6, [.ref h1, .ref h4, .ref kthis_audio, .ref kthis_samples, .ref kthis_download, .ref kthis_accounts, .ref kthis_line, .int v0_mode, .int v0_startThreshold, .int v0_lastRung, .int v0_lastChange, .int v0_state, .int v0_time, .int v0_position])), (h1, .inr (8, [.ref h2, .ref h3, .ref kthis_stream_audio, .ref kthis_stream_plan])), (h2, .inl (cI, 15, .inl r2)), (h3, .inr (2, [.ref kthis_stream_video_rates, .int v3_most, .int v3_rungs])), (h4, .inr (7, [.ref kthis_video_rungs, .int v4_segments]))] [.ref h0, .int p0]) (QR (some (.int t0))) 0 0 free0 := by
  refine metR (own := RX6) (by decide) rfl (Nat.le_of_ble_eq_true rfl) ?_
  intro p e s m below meth c S hr hlk hP hK ls hl
  have hx := S.1
  have hb := S.2.1
  have hl : lv_has ls 2 [(0, .ref h0), (1, .int p0)] := hl
  refine lv_aload_n hx hb dX6_bufferOf_0 rfl (lv_at hl 0 rfl) ?_
  refine gf_X6_53 (v := .ref h1) S hK hP 0 rfl rfl dX6_bufferOf_1 ?_
  refine lv_iload_n hx hb dX6_bufferOf_4 rfl (lv_at hl 1 rfl) ?_
  refine rdV (pc1 := 8) (rest := []) (st1 := [.ref h3]) S (c_X8_ladderOf_0 l D cI cJ cC h1 h2 h3 kthis_stream_audio kthis_stream_plan p0 hv) (cw_X6_167 S.2.2.2.2 ⟨Nat.le_of_ble_eq_true rfl, Nat.le_of_ble_eq_true rfl⟩) hK (hP.sub [1] rfl) rfl rfl rfl rfl hl.1 rfl (Nat.le_of_ble_eq_true rfl) ⟨Nat.zero_le _, Nat.zero_le _⟩ rfl rfl dX6_bufferOf_5 ?_
  refine gf_X6_171 (v := .int v3_rungs) S hK hP 3 rfl rfl dX6_bufferOf_8 ?_
  refine lv_if_ne (tgt := 16) hx hb dX6_bufferOf_11 (by decide) (fun c1 => ?_) (fun c1 => ?_)
  · have h := iteN c1 h
    refine lv_aload_n hx hb dX6_bufferOf_16 rfl (lv_at hl 0 rfl) ?_
    refine lv_iload_n hx hb dX6_bufferOf_17 rfl (lv_at hl 1 rfl) ?_
    refine rdV (pc1 := 21) (rest := []) (st1 := [.ref h4]) S (c_X6_shelfOf_0 l D cI cJ cC h0 h1 h4 kthis_audio kthis_samples kthis_download kthis_accounts kthis_line v0_mode v0_startThreshold v0_lastRung v0_lastChange v0_state v0_time v0_position p0 hv) (cw_X6_163 S.2.2.2.2 ⟨Nat.le_of_ble_eq_true rfl, Nat.le_of_ble_eq_true rfl⟩) hK (hP.sub [0] rfl) rfl rfl rfl rfl hl.1 rfl (Nat.le_of_ble_eq_true rfl) ⟨Nat.zero_le _, Nat.zero_le _⟩ rfl rfl dX6_bufferOf_18 ?_
    refine gf_X6_145 (v := .int v4_segments) S hK hP 4 rfl rfl dX6_bufferOf_21 ?_
    refine lv_aload_n hx hb dX6_bufferOf_24 rfl (lv_at hl 0 rfl) ?_
    refine gf_X6_53 (v := .ref h1) S hK hP 0 rfl rfl dX6_bufferOf_25 ?_
    refine lv_iconst (v := 0) hx hb dX6_bufferOf_28 li_0 ?_
    refine rdV (pc1 := 32) (rest := [.int v4_segments]) (st1 := [.int (f_X8_valueOf r2 0), .int v4_segments]) S (c_X8_valueOf l D cI cJ cC h1 h2 h3 kthis_stream_audio kthis_stream_plan r2 0 _ rfl) (cw_X6_176 S.2.2.2.2 ⟨Nat.le_of_ble_eq_true rfl, Nat.le_of_ble_eq_true rfl⟩) hK (hP.sub [1, 2] rfl) rfl rfl rfl rfl hl.1 rfl (Nat.le_of_ble_eq_true rfl) ⟨Nat.zero_le _, Nat.zero_le _⟩ rfl rfl dX6_bufferOf_29 ?_
    refine lv_imul hx hb dX6_bufferOf_32 ?_
    refine lv_aload_n hx hb dX6_bufferOf_33 rfl (lv_at hl 0 rfl) ?_
    refine gf_X6_82 (v := .int v0_position) S hK hP 0 rfl rfl dX6_bufferOf_34 ?_
    refine lv_isub hx hb dX6_bufferOf_37 ?_
    subst h
    exact rRi S hr hlk dX6_bufferOf_38
  · have h := iteP c1 h
    refine lv_iconst (v := 0) hx hb dX6_bufferOf_14 li_0 ?_
    subst h
    exact rRi S hr hlk dX6_bufferOf_15
def f_X6_bufferOf_1 (v0_position v1_segments v3_rungs : Int32) (r4 : Nat → Int32) : Int32 :=
  if v3_rungs = 0 then
    0
  else
    (v1_segments * (f_X8_valueOf r4 0)) - v0_position
set_option maxHeartbeats 4000000 in
set_option maxRecDepth 100000 in
theorem c_X6_bufferOf_1 (l : Launch) (D : va_G) (cI cJ cC : ClassId) (h0 h1 h2 h3 h4 kthis_video kthis_samples kthis_download kthis_accounts kthis_line kthis_audio_rungs kthis_stream_video kthis_stream_plan kthis_stream_audio_rates : Nat) (v0_mode v0_startThreshold v0_lastRung v0_lastChange v0_state v0_time v0_position v1_segments v3_most v3_rungs : Int32) (r4 : Nat → Int32) (p0 : Int32) (hv : ¬ p0 = 0) (t0 : Int32) (h : f_X6_bufferOf_1 v0_position v1_segments v3_rungs r4 = t0) : Met l yX6_bufferOf (Cond.code yX6_bufferOf cX6_bufferOf 2 (some .int) :: TB) rm_X6_bufferOf (PreR D cI cJ cC [(h0, .inr (6, [.ref h2, .ref kthis_video, .ref h1, .ref kthis_samples, .ref kthis_download, .ref kthis_accounts, .ref kthis_line, .int v0_mode, .int v0_startThreshold, .int v0_lastRung, .int v0_lastChange, .int v0_state, .int v0_time, .int v0_position])), (h1, .inr (7, [.ref kthis_audio_rungs, .int v1_segments])), (h2, .inr (8, [.ref h4, .ref kthis_stream_video, .ref h3, .ref kthis_stream_plan])), (h3, .inr (2, [.ref kthis_stream_audio_rates, .int v3_most, .int v3_rungs])), (h4, .inl (cI, 15, .inl r4))] [.ref h0, .int p0]) (QR (some (.int t0))) 0 0 free0 := by
  refine metR (own := RX6) (by decide) rfl (Nat.le_of_ble_eq_true rfl) ?_
  intro p e s m below meth c S hr hlk hP hK ls hl
  have hx := S.1
  have hb := S.2.1
  have hl : lv_has ls 2 [(0, .ref h0), (1, .int p0)] := hl
  refine lv_aload_n hx hb dX6_bufferOf_0 rfl (lv_at hl 0 rfl) ?_
  refine gf_X6_53 (v := .ref h2) S hK hP 0 rfl rfl dX6_bufferOf_1 ?_
  refine lv_iload_n hx hb dX6_bufferOf_4 rfl (lv_at hl 1 rfl) ?_
  refine rdV (pc1 := 8) (rest := []) (st1 := [.ref h3]) S (c_X8_ladderOf_1 l D cI cJ cC h2 h4 kthis_stream_video h3 kthis_stream_plan p0 hv) (cw_X6_167 S.2.2.2.2 ⟨Nat.le_of_ble_eq_true rfl, Nat.le_of_ble_eq_true rfl⟩) hK (hP.sub [2] rfl) rfl rfl rfl rfl hl.1 rfl (Nat.le_of_ble_eq_true rfl) ⟨Nat.zero_le _, Nat.zero_le _⟩ rfl rfl dX6_bufferOf_5 ?_
  refine gf_X6_171 (v := .int v3_rungs) S hK hP 3 rfl rfl dX6_bufferOf_8 ?_
  refine lv_if_ne (tgt := 16) hx hb dX6_bufferOf_11 (by decide) (fun c1 => ?_) (fun c1 => ?_)
  · have h := iteN c1 h
    refine lv_aload_n hx hb dX6_bufferOf_16 rfl (lv_at hl 0 rfl) ?_
    refine lv_iload_n hx hb dX6_bufferOf_17 rfl (lv_at hl 1 rfl) ?_
    refine rdV (pc1 := 21) (rest := []) (st1 := [.ref h1]) S (c_X6_shelfOf_1 l D cI cJ cC h0 h2 kthis_video h1 kthis_samples kthis_download kthis_accounts kthis_line v0_mode v0_startThreshold v0_lastRung v0_lastChange v0_state v0_time v0_position p0 hv) (cw_X6_163 S.2.2.2.2 ⟨Nat.le_of_ble_eq_true rfl, Nat.le_of_ble_eq_true rfl⟩) hK (hP.sub [0] rfl) rfl rfl rfl rfl hl.1 rfl (Nat.le_of_ble_eq_true rfl) ⟨Nat.zero_le _, Nat.zero_le _⟩ rfl rfl dX6_bufferOf_18 ?_
    refine gf_X6_145 (v := .int v1_segments) S hK hP 1 rfl rfl dX6_bufferOf_21 ?_
    refine lv_aload_n hx hb dX6_bufferOf_24 rfl (lv_at hl 0 rfl) ?_
    refine gf_X6_53 (v := .ref h2) S hK hP 0 rfl rfl dX6_bufferOf_25 ?_
    refine lv_iconst (v := 0) hx hb dX6_bufferOf_28 li_0 ?_
    refine rdV (pc1 := 32) (rest := [.int v1_segments]) (st1 := [.int (f_X8_valueOf r4 0), .int v1_segments]) S (c_X8_valueOf l D cI cJ cC h2 h4 kthis_stream_video h3 kthis_stream_plan r4 0 _ rfl) (cw_X6_176 S.2.2.2.2 ⟨Nat.le_of_ble_eq_true rfl, Nat.le_of_ble_eq_true rfl⟩) hK (hP.sub [2, 4] rfl) rfl rfl rfl rfl hl.1 rfl (Nat.le_of_ble_eq_true rfl) ⟨Nat.zero_le _, Nat.zero_le _⟩ rfl rfl dX6_bufferOf_29 ?_
    refine lv_imul hx hb dX6_bufferOf_32 ?_
    refine lv_aload_n hx hb dX6_bufferOf_33 rfl (lv_at hl 0 rfl) ?_
    refine gf_X6_82 (v := .int v0_position) S hK hP 0 rfl rfl dX6_bufferOf_34 ?_
    refine lv_isub hx hb dX6_bufferOf_37 ?_
    subst h
    exact rRi S hr hlk dX6_bufferOf_38
  · have h := iteP c1 h
    refine lv_iconst (v := 0) hx hb dX6_bufferOf_14 li_0 ?_
    subst h
    exact rRi S hr hlk dX6_bufferOf_15
abbrev rm_X6_hasNext : Room := { frames := 2, cells := 0, slots := 0, locals := 44 }
theorem dX6_hasNext_0 : decode cX6_hasNext 0 = .ok (.aload_n 0, 1) := by decide +kernel
theorem dX6_hasNext_1 : decode cX6_hasNext 1 = .ok (.iload_n 1, 1) := by decide +kernel
theorem dX6_hasNext_2 : decode cX6_hasNext 2 = .ok (.invokevirtual 163, 3) := by decide +kernel
theorem dX6_hasNext_5 : decode cX6_hasNext 5 = .ok (.getfield 145, 3) := by decide +kernel
theorem dX6_hasNext_8 : decode cX6_hasNext 8 = .ok (.istore_n 2, 1) := by decide +kernel
theorem dX6_hasNext_9 : decode cX6_hasNext 9 = .ok (.aload_n 0, 1) := by decide +kernel
theorem dX6_hasNext_10 : decode cX6_hasNext 10 = .ok (.getfield 53, 3) := by decide +kernel
theorem dX6_hasNext_13 : decode cX6_hasNext 13 = .ok (.iload_n 1, 1) := by decide +kernel
theorem dX6_hasNext_14 : decode cX6_hasNext 14 = .ok (.invokevirtual 167, 3) := by decide +kernel
theorem dX6_hasNext_17 : decode cX6_hasNext 17 = .ok (.getfield 171, 3) := by decide +kernel
theorem dX6_hasNext_20 : decode cX6_hasNext 20 = .ok (.ifCond .le 60, 3) := by decide +kernel
theorem dX6_hasNext_23 : decode cX6_hasNext 23 = .ok (.iload_n 2, 1) := by decide +kernel
theorem dX6_hasNext_24 : decode cX6_hasNext 24 = .ok (.aload_n 0, 1) := by decide +kernel
theorem dX6_hasNext_25 : decode cX6_hasNext 25 = .ok (.getfield 53, 3) := by decide +kernel
theorem dX6_hasNext_28 : decode cX6_hasNext 28 = .ok (.iconst 1, 1) := by decide +kernel
theorem dX6_hasNext_29 : decode cX6_hasNext 29 = .ok (.invokevirtual 176, 3) := by decide +kernel
theorem dX6_hasNext_32 : decode cX6_hasNext 32 = .ok (.if_icmp .ge 48, 3) := by decide +kernel
theorem dX6_hasNext_35 : decode cX6_hasNext 35 = .ok (.aload_n 0, 1) := by decide +kernel
theorem dX6_hasNext_36 : decode cX6_hasNext 36 = .ok (.getfield 53, 3) := by decide +kernel
theorem dX6_hasNext_39 : decode cX6_hasNext 39 = .ok (.iload_n 2, 1) := by decide +kernel
theorem dX6_hasNext_40 : decode cX6_hasNext 40 = .ok (.aload_n 0, 1) := by decide +kernel
theorem dX6_hasNext_41 : decode cX6_hasNext 41 = .ok (.getfield 79, 3) := by decide +kernel
theorem dX6_hasNext_44 : decode cX6_hasNext 44 = .ok (.invokevirtual 179, 3) := by decide +kernel
theorem dX6_hasNext_47 : decode cX6_hasNext 47 = .ok (.ifCond .eq 33, 3) := by decide +kernel
theorem dX6_hasNext_50 : decode cX6_hasNext 50 = .ok (.aload_n 0, 1) := by decide +kernel
theorem dX6_hasNext_51 : decode cX6_hasNext 51 = .ok (.iload_n 1, 1) := by decide +kernel
theorem dX6_hasNext_52 : decode cX6_hasNext 52 = .ok (.invokevirtual 183, 3) := by decide +kernel
theorem dX6_hasNext_55 : decode cX6_hasNext 55 = .ok (.aload_n 0, 1) := by decide +kernel
theorem dX6_hasNext_56 : decode cX6_hasNext 56 = .ok (.getfield 53, 3) := by decide +kernel
theorem dX6_hasNext_59 : decode cX6_hasNext 59 = .ok (.iconst 0, 1) := by decide +kernel
theorem dX6_hasNext_60 : decode cX6_hasNext 60 = .ok (.invokevirtual 176, 3) := by decide +kernel
theorem dX6_hasNext_63 : decode cX6_hasNext 63 = .ok (.iadd, 1) := by decide +kernel
theorem dX6_hasNext_64 : decode cX6_hasNext 64 = .ok (.aload_n 0, 1) := by decide +kernel
theorem dX6_hasNext_65 : decode cX6_hasNext 65 = .ok (.getfield 53, 3) := by decide +kernel
theorem dX6_hasNext_68 : decode cX6_hasNext 68 = .ok (.bipush 7, 2) := by decide +kernel
theorem dX6_hasNext_70 : decode cX6_hasNext 70 = .ok (.invokevirtual 176, 3) := by decide +kernel
theorem dX6_hasNext_73 : decode cX6_hasNext 73 = .ok (.if_icmp .gt 7, 3) := by decide +kernel
theorem dX6_hasNext_76 : decode cX6_hasNext 76 = .ok (.iconst 1, 1) := by decide +kernel
theorem dX6_hasNext_77 : decode cX6_hasNext 77 = .ok (.goto 4, 3) := by decide +kernel
theorem dX6_hasNext_80 : decode cX6_hasNext 80 = .ok (.iconst 0, 1) := by decide +kernel
theorem dX6_hasNext_81 : decode cX6_hasNext 81 = .ok (.ireturn, 1) := by decide +kernel
theorem cw_X6_179 {R : Room} {s : State} {args : Array Value} (hts : ∀ w ∈ TB, w.before args s = true) (hR : rm_X8_isAvailable.frames + 1 ≤ R.frames ∧ 8 + (4 + 11) + rm_X8_isAvailable.locals ≤ R.locals) : CallW R s args RX6 RX8 179 yX8_isAvailable cX8_isAvailable 4 (some .boolean) (Cond.code yX8_isAvailable cX8_isAvailable 4 (some .boolean) :: TB) rm_X8_isAvailable 0 0 2 := cwV 2 hts (gV tb534 tb535 tb536 tb22 tb537) rfl rfl rfl ⟨rfl, by decide, by decide, by decide +kernel⟩ hR
theorem cw_X6_183 {R : Room} {s : State} {args : Array Value} (hts : ∀ w ∈ TB, w.before args s = true) (hR : rm_X6_bufferOf.frames + 1 ≤ R.frames ∧ 8 + (2 + 11) + rm_X6_bufferOf.locals ≤ R.locals) : CallW R s args RX6 RX6 183 yX6_bufferOf cX6_bufferOf 2 (some .int) (Cond.code yX6_bufferOf cX6_bufferOf 2 (some .int) :: TB) rm_X6_bufferOf 0 0 1 := cwV 1 hts (gV tb538 tb412 tb413 tb25 tb414) rfl rfl rfl ⟨rfl, by decide, by decide, by decide +kernel⟩ hR
def f_X6_hasNext_0 (v0_time v0_position : Int32) (r2 : Nat → Int32) (v3_rungs v4_segments : Int32) : Int32 :=
  if v3_rungs ≤ 0 then
    0
  else
    if (f_X8_valueOf r2 1) ≤ v4_segments then
      0
    else
      if (f_X8_isAvailable r2 v4_segments v0_time) = 0 then
        0
      else
        if (f_X8_valueOf r2 7) < ((f_X6_bufferOf_0 v0_position r2 v3_rungs v4_segments) + (f_X8_valueOf r2 0)) then
          0
        else
          1
set_option maxHeartbeats 4000000 in
set_option maxRecDepth 100000 in
theorem c_X6_hasNext_0 (l : Launch) (D : va_G) (cI cJ cC : ClassId) (h0 h1 h2 h3 h4 kthis_audio kthis_samples kthis_download kthis_accounts kthis_line kthis_stream_audio kthis_stream_plan kthis_stream_video_rates kthis_video_rungs : Nat) (v0_mode v0_startThreshold v0_lastRung v0_lastChange v0_state v0_time v0_position : Int32) (r2 : Nat → Int32) (v3_most v3_rungs v4_segments : Int32) (p0 : Int32) (hv : p0 = 0) (t0 : Int32) (h : f_X6_hasNext_0 v0_time v0_position r2 v3_rungs v4_segments = t0) : Met l yX6_hasNext (Cond.code yX6_hasNext cX6_hasNext 3 (some .boolean) :: TB) rm_X6_hasNext (PreR D cI cJ cC [(h0, .inr (6, [.ref h1, .ref h4, .ref kthis_audio, .ref kthis_samples, .ref kthis_download, .ref kthis_accounts, .ref kthis_line, .int v0_mode, .int v0_startThreshold, .int v0_lastRung, .int v0_lastChange, .int v0_state, .int v0_time, .int v0_position])), (h1, .inr (8, [.ref h2, .ref h3, .ref kthis_stream_audio, .ref kthis_stream_plan])), (h2, .inl (cI, 15, .inl r2)), (h3, .inr (2, [.ref kthis_stream_video_rates, .int v3_most, .int v3_rungs])), (h4, .inr (7, [.ref kthis_video_rungs, .int v4_segments]))] [.ref h0, .int p0]) (QR (some (.int t0))) 0 0 free0 := by
  refine metR (own := RX6) (by decide) rfl (Nat.le_of_ble_eq_true rfl) ?_
  intro p e s m below meth c S hr hlk hP hK ls hl
  have hx := S.1
  have hb := S.2.1
  have hl : lv_has ls 3 [(0, .ref h0), (1, .int p0)] := hl
  refine lv_aload_n hx hb dX6_hasNext_0 rfl (lv_at hl 0 rfl) ?_
  refine lv_iload_n hx hb dX6_hasNext_1 rfl (lv_at hl 1 rfl) ?_
  refine rdV (pc1 := 5) (rest := []) (st1 := [.ref h4]) S (c_X6_shelfOf_0 l D cI cJ cC h0 h1 h4 kthis_audio kthis_samples kthis_download kthis_accounts kthis_line v0_mode v0_startThreshold v0_lastRung v0_lastChange v0_state v0_time v0_position p0 hv) (cw_X6_163 S.2.2.2.2 ⟨Nat.le_of_ble_eq_true rfl, Nat.le_of_ble_eq_true rfl⟩) hK (hP.sub [0] rfl) rfl rfl rfl rfl hl.1 rfl (Nat.le_of_ble_eq_true rfl) ⟨Nat.zero_le _, Nat.zero_le _⟩ rfl rfl dX6_hasNext_2 ?_
  refine gf_X6_145 (v := .int v4_segments) S hK hP 4 rfl rfl dX6_hasNext_5 ?_
  refine lv_istore_n (lv' := [(2, .int v4_segments), (0, .ref h0), (1, .int p0)]) hx hb dX6_hasNext_8 rfl hl (by decide) rfl (fun ls hl => ?_)
  refine lv_aload_n hx hb dX6_hasNext_9 rfl (lv_at hl 1 rfl) ?_
  refine gf_X6_53 (v := .ref h1) S hK hP 0 rfl rfl dX6_hasNext_10 ?_
  refine lv_iload_n hx hb dX6_hasNext_13 rfl (lv_at hl 2 rfl) ?_
  refine rdV (pc1 := 17) (rest := []) (st1 := [.ref h3]) S (c_X8_ladderOf_0 l D cI cJ cC h1 h2 h3 kthis_stream_audio kthis_stream_plan p0 hv) (cw_X6_167 S.2.2.2.2 ⟨Nat.le_of_ble_eq_true rfl, Nat.le_of_ble_eq_true rfl⟩) hK (hP.sub [1] rfl) rfl rfl rfl rfl hl.1 rfl (Nat.le_of_ble_eq_true rfl) ⟨Nat.zero_le _, Nat.zero_le _⟩ rfl rfl dX6_hasNext_14 ?_
  refine gf_X6_171 (v := .int v3_rungs) S hK hP 3 rfl rfl dX6_hasNext_17 ?_
  refine lv_if_le (tgt := 80) hx hb dX6_hasNext_20 (by decide) (fun c1 => ?_) (fun c1 => ?_)
  · have h := iteP c1 h
    refine lv_iconst (v := 0) hx hb dX6_hasNext_80 li_0 ?_
    subst h
    exact rRz S hr hlk (by decide) dX6_hasNext_81
  · have h := iteN c1 h
    refine lv_iload_n hx hb dX6_hasNext_23 rfl (lv_at hl 0 rfl) ?_
    refine lv_aload_n hx hb dX6_hasNext_24 rfl (lv_at hl 1 rfl) ?_
    refine gf_X6_53 (v := .ref h1) S hK hP 0 rfl rfl dX6_hasNext_25 ?_
    refine lv_iconst (v := 1) hx hb dX6_hasNext_28 li_1 ?_
    refine rdV (pc1 := 32) (rest := [.int v4_segments]) (st1 := [.int (f_X8_valueOf r2 1), .int v4_segments]) S (c_X8_valueOf l D cI cJ cC h1 h2 h3 kthis_stream_audio kthis_stream_plan r2 1 _ rfl) (cw_X6_176 S.2.2.2.2 ⟨Nat.le_of_ble_eq_true rfl, Nat.le_of_ble_eq_true rfl⟩) hK (hP.sub [1, 2] rfl) rfl rfl rfl rfl hl.1 rfl (Nat.le_of_ble_eq_true rfl) ⟨Nat.zero_le _, Nat.zero_le _⟩ rfl rfl dX6_hasNext_29 ?_
    refine lv_icmp_ge (tgt := 80) hx hb dX6_hasNext_32 (by decide) (fun c2 => ?_) (fun c2 => ?_)
    · have h := iteP c2 h
      refine lv_iconst (v := 0) hx hb dX6_hasNext_80 li_0 ?_
      subst h
      exact rRz S hr hlk (by decide) dX6_hasNext_81
    · have h := iteN c2 h
      refine lv_aload_n hx hb dX6_hasNext_35 rfl (lv_at hl 1 rfl) ?_
      refine gf_X6_53 (v := .ref h1) S hK hP 0 rfl rfl dX6_hasNext_36 ?_
      refine lv_iload_n hx hb dX6_hasNext_39 rfl (lv_at hl 0 rfl) ?_
      refine lv_aload_n hx hb dX6_hasNext_40 rfl (lv_at hl 1 rfl) ?_
      refine gf_X6_79 (v := .int v0_time) S hK hP 0 rfl rfl dX6_hasNext_41 ?_
      refine rdV (pc1 := 47) (rest := []) (st1 := [.int (f_X8_isAvailable r2 v4_segments v0_time)]) S (c_X8_isAvailable l D cI cJ cC h1 h2 h3 kthis_stream_audio kthis_stream_plan r2 v4_segments v0_time _ rfl) (cw_X6_179 S.2.2.2.2 ⟨Nat.le_of_ble_eq_true rfl, Nat.le_of_ble_eq_true rfl⟩) hK (hP.sub [1, 2] rfl) rfl rfl rfl rfl hl.1 rfl (Nat.le_of_ble_eq_true rfl) ⟨Nat.zero_le _, Nat.zero_le _⟩ rfl rfl dX6_hasNext_44 ?_
      refine lv_if_eq (tgt := 80) hx hb dX6_hasNext_47 (by decide) (fun c3 => ?_) (fun c3 => ?_)
      · have h := iteP c3 h
        refine lv_iconst (v := 0) hx hb dX6_hasNext_80 li_0 ?_
        subst h
        exact rRz S hr hlk (by decide) dX6_hasNext_81
      · have h := iteN c3 h
        refine lv_aload_n hx hb dX6_hasNext_50 rfl (lv_at hl 1 rfl) ?_
        refine lv_iload_n hx hb dX6_hasNext_51 rfl (lv_at hl 2 rfl) ?_
        refine rdV (pc1 := 55) (rest := []) (st1 := [.int (f_X6_bufferOf_0 v0_position r2 v3_rungs v4_segments)]) S (c_X6_bufferOf_0 l D cI cJ cC h0 h1 h2 h3 h4 kthis_audio kthis_samples kthis_download kthis_accounts kthis_line kthis_stream_audio kthis_stream_plan kthis_stream_video_rates kthis_video_rungs v0_mode v0_startThreshold v0_lastRung v0_lastChange v0_state v0_time v0_position r2 v3_most v3_rungs v4_segments p0 hv _ rfl) (cw_X6_183 S.2.2.2.2 ⟨Nat.le_of_ble_eq_true rfl, Nat.le_of_ble_eq_true rfl⟩) hK (hP.sub [0, 1, 2, 3, 4] rfl) rfl rfl rfl rfl hl.1 rfl (Nat.le_of_ble_eq_true rfl) ⟨Nat.zero_le _, Nat.zero_le _⟩ rfl rfl dX6_hasNext_52 ?_
        refine lv_aload_n hx hb dX6_hasNext_55 rfl (lv_at hl 1 rfl) ?_
        refine gf_X6_53 (v := .ref h1) S hK hP 0 rfl rfl dX6_hasNext_56 ?_
        refine lv_iconst (v := 0) hx hb dX6_hasNext_59 li_0 ?_
        refine rdV (pc1 := 63) (rest := [.int (f_X6_bufferOf_0 v0_position r2 v3_rungs v4_segments)]) (st1 := [.int (f_X8_valueOf r2 0), .int (f_X6_bufferOf_0 v0_position r2 v3_rungs v4_segments)]) S (c_X8_valueOf l D cI cJ cC h1 h2 h3 kthis_stream_audio kthis_stream_plan r2 0 _ rfl) (cw_X6_176 S.2.2.2.2 ⟨Nat.le_of_ble_eq_true rfl, Nat.le_of_ble_eq_true rfl⟩) hK (hP.sub [1, 2] rfl) rfl rfl rfl rfl hl.1 rfl (Nat.le_of_ble_eq_true rfl) ⟨Nat.zero_le _, Nat.zero_le _⟩ rfl rfl dX6_hasNext_60 ?_
        refine lv_iadd hx hb dX6_hasNext_63 ?_
        refine lv_aload_n hx hb dX6_hasNext_64 rfl (lv_at hl 1 rfl) ?_
        refine gf_X6_53 (v := .ref h1) S hK hP 0 rfl rfl dX6_hasNext_65 ?_
        refine lv_bipush (v := 7) hx hb dX6_hasNext_68 lb_7 ?_
        refine rdV (pc1 := 73) (rest := [.int ((f_X6_bufferOf_0 v0_position r2 v3_rungs v4_segments) + (f_X8_valueOf r2 0))]) (st1 := [.int (f_X8_valueOf r2 7), .int ((f_X6_bufferOf_0 v0_position r2 v3_rungs v4_segments) + (f_X8_valueOf r2 0))]) S (c_X8_valueOf l D cI cJ cC h1 h2 h3 kthis_stream_audio kthis_stream_plan r2 7 _ rfl) (cw_X6_176 S.2.2.2.2 ⟨Nat.le_of_ble_eq_true rfl, Nat.le_of_ble_eq_true rfl⟩) hK (hP.sub [1, 2] rfl) rfl rfl rfl rfl hl.1 rfl (Nat.le_of_ble_eq_true rfl) ⟨Nat.zero_le _, Nat.zero_le _⟩ rfl rfl dX6_hasNext_70 ?_
        refine lv_icmp_gt (tgt := 80) hx hb dX6_hasNext_73 (by decide) (fun c4 => ?_) (fun c4 => ?_)
        · have h := iteP c4 h
          refine lv_iconst (v := 0) hx hb dX6_hasNext_80 li_0 ?_
          subst h
          exact rRz S hr hlk (by decide) dX6_hasNext_81
        · have h := iteN c4 h
          refine lv_iconst (v := 1) hx hb dX6_hasNext_76 li_1 ?_
          refine lv_goto (tgt := 81) hx hb dX6_hasNext_77 (by decide) ?_
          subst h
          exact rRz S hr hlk (by decide) dX6_hasNext_81
def f_X6_hasNext_1 (v0_time v0_position v1_segments v3_rungs : Int32) (r4 : Nat → Int32) : Int32 :=
  if v3_rungs ≤ 0 then
    0
  else
    if (f_X8_valueOf r4 1) ≤ v1_segments then
      0
    else
      if (f_X8_isAvailable r4 v1_segments v0_time) = 0 then
        0
      else
        if (f_X8_valueOf r4 7) < ((f_X6_bufferOf_1 v0_position v1_segments v3_rungs r4) + (f_X8_valueOf r4 0)) then
          0
        else
          1
set_option maxHeartbeats 4000000 in
set_option maxRecDepth 100000 in
theorem c_X6_hasNext_1 (l : Launch) (D : va_G) (cI cJ cC : ClassId) (h0 h1 h2 h3 h4 kthis_video kthis_samples kthis_download kthis_accounts kthis_line kthis_audio_rungs kthis_stream_video kthis_stream_plan kthis_stream_audio_rates : Nat) (v0_mode v0_startThreshold v0_lastRung v0_lastChange v0_state v0_time v0_position v1_segments v3_most v3_rungs : Int32) (r4 : Nat → Int32) (p0 : Int32) (hv : ¬ p0 = 0) (t0 : Int32) (h : f_X6_hasNext_1 v0_time v0_position v1_segments v3_rungs r4 = t0) : Met l yX6_hasNext (Cond.code yX6_hasNext cX6_hasNext 3 (some .boolean) :: TB) rm_X6_hasNext (PreR D cI cJ cC [(h0, .inr (6, [.ref h2, .ref kthis_video, .ref h1, .ref kthis_samples, .ref kthis_download, .ref kthis_accounts, .ref kthis_line, .int v0_mode, .int v0_startThreshold, .int v0_lastRung, .int v0_lastChange, .int v0_state, .int v0_time, .int v0_position])), (h1, .inr (7, [.ref kthis_audio_rungs, .int v1_segments])), (h2, .inr (8, [.ref h4, .ref kthis_stream_video, .ref h3, .ref kthis_stream_plan])), (h3, .inr (2, [.ref kthis_stream_audio_rates, .int v3_most, .int v3_rungs])), (h4, .inl (cI, 15, .inl r4))] [.ref h0, .int p0]) (QR (some (.int t0))) 0 0 free0 := by
  refine metR (own := RX6) (by decide) rfl (Nat.le_of_ble_eq_true rfl) ?_
  intro p e s m below meth c S hr hlk hP hK ls hl
  have hx := S.1
  have hb := S.2.1
  have hl : lv_has ls 3 [(0, .ref h0), (1, .int p0)] := hl
  refine lv_aload_n hx hb dX6_hasNext_0 rfl (lv_at hl 0 rfl) ?_
  refine lv_iload_n hx hb dX6_hasNext_1 rfl (lv_at hl 1 rfl) ?_
  refine rdV (pc1 := 5) (rest := []) (st1 := [.ref h1]) S (c_X6_shelfOf_1 l D cI cJ cC h0 h2 kthis_video h1 kthis_samples kthis_download kthis_accounts kthis_line v0_mode v0_startThreshold v0_lastRung v0_lastChange v0_state v0_time v0_position p0 hv) (cw_X6_163 S.2.2.2.2 ⟨Nat.le_of_ble_eq_true rfl, Nat.le_of_ble_eq_true rfl⟩) hK (hP.sub [0] rfl) rfl rfl rfl rfl hl.1 rfl (Nat.le_of_ble_eq_true rfl) ⟨Nat.zero_le _, Nat.zero_le _⟩ rfl rfl dX6_hasNext_2 ?_
  refine gf_X6_145 (v := .int v1_segments) S hK hP 1 rfl rfl dX6_hasNext_5 ?_
  refine lv_istore_n (lv' := [(2, .int v1_segments), (0, .ref h0), (1, .int p0)]) hx hb dX6_hasNext_8 rfl hl (by decide) rfl (fun ls hl => ?_)
  refine lv_aload_n hx hb dX6_hasNext_9 rfl (lv_at hl 1 rfl) ?_
  refine gf_X6_53 (v := .ref h2) S hK hP 0 rfl rfl dX6_hasNext_10 ?_
  refine lv_iload_n hx hb dX6_hasNext_13 rfl (lv_at hl 2 rfl) ?_
  refine rdV (pc1 := 17) (rest := []) (st1 := [.ref h3]) S (c_X8_ladderOf_1 l D cI cJ cC h2 h4 kthis_stream_video h3 kthis_stream_plan p0 hv) (cw_X6_167 S.2.2.2.2 ⟨Nat.le_of_ble_eq_true rfl, Nat.le_of_ble_eq_true rfl⟩) hK (hP.sub [2] rfl) rfl rfl rfl rfl hl.1 rfl (Nat.le_of_ble_eq_true rfl) ⟨Nat.zero_le _, Nat.zero_le _⟩ rfl rfl dX6_hasNext_14 ?_
  refine gf_X6_171 (v := .int v3_rungs) S hK hP 3 rfl rfl dX6_hasNext_17 ?_
  refine lv_if_le (tgt := 80) hx hb dX6_hasNext_20 (by decide) (fun c1 => ?_) (fun c1 => ?_)
  · have h := iteP c1 h
    refine lv_iconst (v := 0) hx hb dX6_hasNext_80 li_0 ?_
    subst h
    exact rRz S hr hlk (by decide) dX6_hasNext_81
  · have h := iteN c1 h
    refine lv_iload_n hx hb dX6_hasNext_23 rfl (lv_at hl 0 rfl) ?_
    refine lv_aload_n hx hb dX6_hasNext_24 rfl (lv_at hl 1 rfl) ?_
    refine gf_X6_53 (v := .ref h2) S hK hP 0 rfl rfl dX6_hasNext_25 ?_
    refine lv_iconst (v := 1) hx hb dX6_hasNext_28 li_1 ?_
    refine rdV (pc1 := 32) (rest := [.int v1_segments]) (st1 := [.int (f_X8_valueOf r4 1), .int v1_segments]) S (c_X8_valueOf l D cI cJ cC h2 h4 kthis_stream_video h3 kthis_stream_plan r4 1 _ rfl) (cw_X6_176 S.2.2.2.2 ⟨Nat.le_of_ble_eq_true rfl, Nat.le_of_ble_eq_true rfl⟩) hK (hP.sub [2, 4] rfl) rfl rfl rfl rfl hl.1 rfl (Nat.le_of_ble_eq_true rfl) ⟨Nat.zero_le _, Nat.zero_le _⟩ rfl rfl dX6_hasNext_29 ?_
    refine lv_icmp_ge (tgt := 80) hx hb dX6_hasNext_32 (by decide) (fun c2 => ?_) (fun c2 => ?_)
    · have h := iteP c2 h
      refine lv_iconst (v := 0) hx hb dX6_hasNext_80 li_0 ?_
      subst h
      exact rRz S hr hlk (by decide) dX6_hasNext_81
    · have h := iteN c2 h
      refine lv_aload_n hx hb dX6_hasNext_35 rfl (lv_at hl 1 rfl) ?_
      refine gf_X6_53 (v := .ref h2) S hK hP 0 rfl rfl dX6_hasNext_36 ?_
      refine lv_iload_n hx hb dX6_hasNext_39 rfl (lv_at hl 0 rfl) ?_
      refine lv_aload_n hx hb dX6_hasNext_40 rfl (lv_at hl 1 rfl) ?_
      refine gf_X6_79 (v := .int v0_time) S hK hP 0 rfl rfl dX6_hasNext_41 ?_
      refine rdV (pc1 := 47) (rest := []) (st1 := [.int (f_X8_isAvailable r4 v1_segments v0_time)]) S (c_X8_isAvailable l D cI cJ cC h2 h4 kthis_stream_video h3 kthis_stream_plan r4 v1_segments v0_time _ rfl) (cw_X6_179 S.2.2.2.2 ⟨Nat.le_of_ble_eq_true rfl, Nat.le_of_ble_eq_true rfl⟩) hK (hP.sub [2, 4] rfl) rfl rfl rfl rfl hl.1 rfl (Nat.le_of_ble_eq_true rfl) ⟨Nat.zero_le _, Nat.zero_le _⟩ rfl rfl dX6_hasNext_44 ?_
      refine lv_if_eq (tgt := 80) hx hb dX6_hasNext_47 (by decide) (fun c3 => ?_) (fun c3 => ?_)
      · have h := iteP c3 h
        refine lv_iconst (v := 0) hx hb dX6_hasNext_80 li_0 ?_
        subst h
        exact rRz S hr hlk (by decide) dX6_hasNext_81
      · have h := iteN c3 h
        refine lv_aload_n hx hb dX6_hasNext_50 rfl (lv_at hl 1 rfl) ?_
        refine lv_iload_n hx hb dX6_hasNext_51 rfl (lv_at hl 2 rfl) ?_
        refine rdV (pc1 := 55) (rest := []) (st1 := [.int (f_X6_bufferOf_1 v0_position v1_segments v3_rungs r4)]) S (c_X6_bufferOf_1 l D cI cJ cC h0 h1 h2 h3 h4 kthis_video kthis_samples kthis_download kthis_accounts kthis_line kthis_audio_rungs kthis_stream_video kthis_stream_plan kthis_stream_audio_rates v0_mode v0_startThreshold v0_lastRung v0_lastChange v0_state v0_time v0_position v1_segments v3_most v3_rungs r4 p0 hv _ rfl) (cw_X6_183 S.2.2.2.2 ⟨Nat.le_of_ble_eq_true rfl, Nat.le_of_ble_eq_true rfl⟩) hK (hP.sub [0, 1, 2, 3, 4] rfl) rfl rfl rfl rfl hl.1 rfl (Nat.le_of_ble_eq_true rfl) ⟨Nat.zero_le _, Nat.zero_le _⟩ rfl rfl dX6_hasNext_52 ?_
        refine lv_aload_n hx hb dX6_hasNext_55 rfl (lv_at hl 1 rfl) ?_
        refine gf_X6_53 (v := .ref h2) S hK hP 0 rfl rfl dX6_hasNext_56 ?_
        refine lv_iconst (v := 0) hx hb dX6_hasNext_59 li_0 ?_
        refine rdV (pc1 := 63) (rest := [.int (f_X6_bufferOf_1 v0_position v1_segments v3_rungs r4)]) (st1 := [.int (f_X8_valueOf r4 0), .int (f_X6_bufferOf_1 v0_position v1_segments v3_rungs r4)]) S (c_X8_valueOf l D cI cJ cC h2 h4 kthis_stream_video h3 kthis_stream_plan r4 0 _ rfl) (cw_X6_176 S.2.2.2.2 ⟨Nat.le_of_ble_eq_true rfl, Nat.le_of_ble_eq_true rfl⟩) hK (hP.sub [2, 4] rfl) rfl rfl rfl rfl hl.1 rfl (Nat.le_of_ble_eq_true rfl) ⟨Nat.zero_le _, Nat.zero_le _⟩ rfl rfl dX6_hasNext_60 ?_
        refine lv_iadd hx hb dX6_hasNext_63 ?_
        refine lv_aload_n hx hb dX6_hasNext_64 rfl (lv_at hl 1 rfl) ?_
        refine gf_X6_53 (v := .ref h2) S hK hP 0 rfl rfl dX6_hasNext_65 ?_
        refine lv_bipush (v := 7) hx hb dX6_hasNext_68 lb_7 ?_
        refine rdV (pc1 := 73) (rest := [.int ((f_X6_bufferOf_1 v0_position v1_segments v3_rungs r4) + (f_X8_valueOf r4 0))]) (st1 := [.int (f_X8_valueOf r4 7), .int ((f_X6_bufferOf_1 v0_position v1_segments v3_rungs r4) + (f_X8_valueOf r4 0))]) S (c_X8_valueOf l D cI cJ cC h2 h4 kthis_stream_video h3 kthis_stream_plan r4 7 _ rfl) (cw_X6_176 S.2.2.2.2 ⟨Nat.le_of_ble_eq_true rfl, Nat.le_of_ble_eq_true rfl⟩) hK (hP.sub [2, 4] rfl) rfl rfl rfl rfl hl.1 rfl (Nat.le_of_ble_eq_true rfl) ⟨Nat.zero_le _, Nat.zero_le _⟩ rfl rfl dX6_hasNext_70 ?_
        refine lv_icmp_gt (tgt := 80) hx hb dX6_hasNext_73 (by decide) (fun c4 => ?_) (fun c4 => ?_)
        · have h := iteP c4 h
          refine lv_iconst (v := 0) hx hb dX6_hasNext_80 li_0 ?_
          subst h
          exact rRz S hr hlk (by decide) dX6_hasNext_81
        · have h := iteN c4 h
          refine lv_iconst (v := 1) hx hb dX6_hasNext_76 li_1 ?_
          refine lv_goto (tgt := 81) hx hb dX6_hasNext_77 (by decide) ?_
          subst h
          exact rRz S hr hlk (by decide) dX6_hasNext_81
abbrev rm_X6_rungByThroughput : Room := { frames := 1, cells := 0, slots := 0, locals := 27 }
theorem dX6_rungByThroughput_0 : decode cX6_rungByThroughput 0 = .ok (.aload_n 0, 1) := by decide +kernel
theorem dX6_rungByThroughput_1 : decode cX6_rungByThroughput 1 = .ok (.getfield 24, 3) := by decide +kernel
theorem dX6_rungByThroughput_4 : decode cX6_rungByThroughput 4 = .ok (.aload_n 0, 1) := by decide +kernel
theorem dX6_rungByThroughput_5 : decode cX6_rungByThroughput 5 = .ok (.getfield 53, 3) := by decide +kernel
theorem dX6_rungByThroughput_8 : decode cX6_rungByThroughput 8 = .ok (.bipush 8, 2) := by decide +kernel
theorem dX6_rungByThroughput_10 : decode cX6_rungByThroughput 10 = .ok (.invokevirtual 176, 3) := by decide +kernel
theorem dX6_rungByThroughput_13 : decode cX6_rungByThroughput 13 = .ok (.invokevirtual 289, 3) := by decide +kernel
theorem dX6_rungByThroughput_16 : decode cX6_rungByThroughput 16 = .ok (.istore_n 3, 1) := by decide +kernel
theorem dX6_rungByThroughput_17 : decode cX6_rungByThroughput 17 = .ok (.iload_n 3, 1) := by decide +kernel
theorem dX6_rungByThroughput_18 : decode cX6_rungByThroughput 18 = .ok (.i2l, 1) := by decide +kernel
theorem dX6_rungByThroughput_19 : decode cX6_rungByThroughput 19 = .ok (.aload_n 0, 1) := by decide +kernel
theorem dX6_rungByThroughput_20 : decode cX6_rungByThroughput 20 = .ok (.getfield 53, 3) := by decide +kernel
theorem dX6_rungByThroughput_23 : decode cX6_rungByThroughput 23 = .ok (.bipush 9, 2) := by decide +kernel
theorem dX6_rungByThroughput_25 : decode cX6_rungByThroughput 25 = .ok (.invokevirtual 176, 3) := by decide +kernel
theorem dX6_rungByThroughput_28 : decode cX6_rungByThroughput 28 = .ok (.i2l, 1) := by decide +kernel
theorem dX6_rungByThroughput_29 : decode cX6_rungByThroughput 29 = .ok (.lmul, 1) := by decide +kernel
theorem dX6_rungByThroughput_30 : decode cX6_rungByThroughput 30 = .ok (.lstore 4, 2) := by decide +kernel
theorem dX6_rungByThroughput_32 : decode cX6_rungByThroughput 32 = .ok (.aload_n 1, 1) := by decide +kernel
theorem dX6_rungByThroughput_33 : decode cX6_rungByThroughput 33 = .ok (.getfield 171, 3) := by decide +kernel
theorem dX6_rungByThroughput_36 : decode cX6_rungByThroughput 36 = .ok (.iconst 1, 1) := by decide +kernel
theorem dX6_rungByThroughput_37 : decode cX6_rungByThroughput 37 = .ok (.isub, 1) := by decide +kernel
theorem dX6_rungByThroughput_38 : decode cX6_rungByThroughput 38 = .ok (.istore 6, 2) := by decide +kernel
theorem dX6_rungByThroughput_40 : decode cX6_rungByThroughput 40 = .ok (.iload 6, 2) := by decide +kernel
theorem dX6_rungByThroughput_42 : decode cX6_rungByThroughput 42 = .ok (.ifCond .le 28, 3) := by decide +kernel
theorem dX6_rungByThroughput_45 : decode cX6_rungByThroughput 45 = .ok (.aload_n 1, 1) := by decide +kernel
theorem dX6_rungByThroughput_46 : decode cX6_rungByThroughput 46 = .ok (.iload 6, 2) := by decide +kernel
theorem dX6_rungByThroughput_48 : decode cX6_rungByThroughput 48 = .ok (.invokevirtual 268, 3) := by decide +kernel
theorem dX6_rungByThroughput_51 : decode cX6_rungByThroughput 51 = .ok (.i2l, 1) := by decide +kernel
theorem dX6_rungByThroughput_52 : decode cX6_rungByThroughput 52 = .ok (.iload_n 2, 1) := by decide +kernel
theorem dX6_rungByThroughput_53 : decode cX6_rungByThroughput 53 = .ok (.i2l, 1) := by decide +kernel
theorem dX6_rungByThroughput_54 : decode cX6_rungByThroughput 54 = .ok (.lmul, 1) := by decide +kernel
theorem dX6_rungByThroughput_55 : decode cX6_rungByThroughput 55 = .ok (.lload 4, 2) := by decide +kernel
theorem dX6_rungByThroughput_57 : decode cX6_rungByThroughput 57 = .ok (.lcmp, 1) := by decide +kernel
theorem dX6_rungByThroughput_58 : decode cX6_rungByThroughput 58 = .ok (.ifCond .gt 6, 3) := by decide +kernel
theorem dX6_rungByThroughput_61 : decode cX6_rungByThroughput 61 = .ok (.iload 6, 2) := by decide +kernel
theorem dX6_rungByThroughput_63 : decode cX6_rungByThroughput 63 = .ok (.ireturn, 1) := by decide +kernel
theorem dX6_rungByThroughput_64 : decode cX6_rungByThroughput 64 = .ok (.iinc 6 (-1), 3) := by decide +kernel
theorem dX6_rungByThroughput_67 : decode cX6_rungByThroughput 67 = .ok (.goto (-27), 3) := by decide +kernel
theorem dX6_rungByThroughput_70 : decode cX6_rungByThroughput 70 = .ok (.iconst 0, 1) := by decide +kernel
theorem dX6_rungByThroughput_71 : decode cX6_rungByThroughput 71 = .ok (.ireturn, 1) := by decide +kernel
theorem cw_X6_289 {R : Room} {s : State} {args : Array Value} (hts : ∀ w ∈ TB, w.before args s = true) (hR : rm_X5_rateOver.frames + 1 ≤ R.frames ∧ 8 + (8 + 11) + rm_X5_rateOver.locals ≤ R.locals) : CallW R s args RX6 RX5 289 yX5_rateOver cX5_rateOver 8 (some .int) (Cond.code yX5_rateOver cX5_rateOver 8 (some .int) :: TB) rm_X5_rateOver 0 0 1 := cwV 1 hts (gV tb546 tb547 tb548 tb27 tb549) rfl rfl rfl ⟨rfl, by decide, by decide, by decide +kernel⟩ hR
theorem cw_X6_268 {R : Room} {s : State} {args : Array Value} (hts : ∀ w ∈ TB, w.before args s = true) (hR : rm_X2_rateOf.frames + 1 ≤ R.frames ∧ 8 + (2 + 11) + rm_X2_rateOf.locals ≤ R.locals) : CallW R s args RX6 RX2 268 yX2_rateOf cX2_rateOf 2 (some .int) (Cond.code yX2_rateOf cX2_rateOf 2 (some .int) :: TB) rm_X2_rateOf 0 0 1 := cwV 1 hts (gV tb550 tb449 tb450 tb23 tb451) rfl rfl rfl ⟨rfl, by decide, by decide, by decide +kernel⟩ hR
def f_X6_rungByThroughput_b40 (r7 : Nat → Int32) : Nat → Int32 → Int64 → Int32 → Int32
  | 0, _, _, _ => 0
  | n + 1, l2, l4, l6 =>
    if l6 ≤ 0 then
      0
    else
      if l4 < (((f_X2_rateOf r7 l6).toInt64) * l2.toInt64) then
        f_X6_rungByThroughput_b40 r7 n l2 l4 (l6 + (-1))
      else
        l6
def f_X6_rungByThroughput (v1_kept : Int32) (r2 r3 : Nat → Int64) (r5 : Nat → Int32) (v6_rungs : Int32) (r7 : Nat → Int32) (p1 : Int32) : Int32 :=
  bnd (f_X5_rateOver v1_kept r2 r3 (f_X8_valueOf r5 8)) fun (y1 : Int32) =>
  bnd (y1.toInt64 * ((f_X8_valueOf r5 9).toInt64)) fun (z2 : Int64) =>
  f_X6_rungByThroughput_b40 r7 ((((v6_rungs - 1).toInt + 1).toNat) + 1) p1 z2 (v6_rungs - 1)
set_option maxHeartbeats 4000000 in
set_option maxRecDepth 100000 in
theorem k_X6_rungByThroughput_b40 {p : Program} {l : Launch} {e : Env} {s : State} {m : MethodId} {args : Array Value} {below : List Frame} {meth : Method} {c : Code} {D : va_G} {cI cJ cC : ClassId} {h0 h1 h2 h3 h4 h5 h6 h7 kthis_video kthis_audio kthis_download kthis_accounts kthis_line kthis_stream_video kthis_stream_audio kthis_stream_plan : Nat} {v0_mode v0_startThreshold v0_lastRung v0_lastChange v0_state v0_time v0_position v1_kept : Int32} {r2 r3 : Nat → Int64} {r5 : Nat → Int32} {v6_most v6_rungs : Int32} {r7 : Nat → Int32} {t0 : Int32}(S : CallFix p m c cX6_rungByThroughput 7 s args TB RX6) (hr : meth.sig.returnType = (some .int)) (hlk : meth.locks = false) (hK : va_K D vwCl (ty3 cI cJ cC) s) (hP : va_P D vwCl [(h0, .inr (6, [.ref h4, .ref kthis_video, .ref kthis_audio, .ref h1, .ref kthis_download, .ref kthis_accounts, .ref kthis_line, .int v0_mode, .int v0_startThreshold, .int v0_lastRung, .int v0_lastChange, .int v0_state, .int v0_time, .int v0_position])), (h1, .inr (5, [.ref h2, .ref h3, .int v1_kept])), (h2, .inl (cJ, 10, .inr (.inl r2))), (h3, .inl (cJ, 10, .inr (.inl r3))), (h4, .inr (8, [.ref h5, .ref kthis_stream_video, .ref kthis_stream_audio, .ref kthis_stream_plan])), (h5, .inl (cI, 15, .inl r5)), (h6, .inr (2, [.ref h7, .int v6_most, .int v6_rungs])), (h7, .inl (cI, 6, .inl r7))] s.heap) : ∀ (n : Nat) (l2 : Int32) (l4 : Int64) (l6 : Int32) (ls : Array Slot), (l6.toInt + 1).toNat < n → f_X6_rungByThroughput_b40 r7 n l2 l4 l6 = t0 → lv_has ls 7 [(1, .ref h6), (2, .int l2), (4, .long l4), (6, .int l6)] → W p l e rm_X6_rungByThroughput s m args below meth c s.heap [] 0 0 (MQ below (QR (some (.int t0))) args s 0 0 free0) (F0 m 40 ls []) := by
  have hx := S.1
  have hb := S.2.1
  intro n
  induction n with
  | zero => intro l2 l4 l6 ls  hmu; exact absurd hmu (Nat.not_lt_zero _)
  | succ n ih =>
    intro l2 l4 l6 ls  hmu h hl
    refine lv_iload hx hb dX6_rungByThroughput_40 (lv_at hl 3 rfl) ?_
    refine lv_if_le (tgt := 70) hx hb dX6_rungByThroughput_42 (by decide) (fun c1 => ?_) (fun c1 => ?_)
    · have h := iteP c1 h
      refine lv_iconst (v := 0) hx hb dX6_rungByThroughput_70 li_0 ?_
      subst h
      exact rRi S hr hlk dX6_rungByThroughput_71
    · have h := iteN c1 h
      refine lv_aload_n hx hb dX6_rungByThroughput_45 rfl (lv_at hl 0 rfl) ?_
      refine lv_iload hx hb dX6_rungByThroughput_46 (lv_at hl 3 rfl) ?_
      refine rdV (pc1 := 51) (rest := []) (st1 := [.int (f_X2_rateOf r7 l6)]) S (c_X2_rateOf l D cI cJ cC h6 h7 v6_most v6_rungs r7 l6 _ rfl) (cw_X6_268 S.2.2.2.2 ⟨Nat.le_of_ble_eq_true rfl, Nat.le_of_ble_eq_true rfl⟩) hK (hP.sub [6, 7] rfl) rfl rfl rfl rfl hl.1 rfl (Nat.le_of_ble_eq_true rfl) ⟨Nat.zero_le _, Nat.zero_le _⟩ rfl rfl dX6_rungByThroughput_48 ?_
      refine lv_i2l hx hb dX6_rungByThroughput_51 rfl ?_
      refine lv_iload_n hx hb dX6_rungByThroughput_52 rfl (lv_at hl 1 rfl) ?_
      refine lv_i2l hx hb dX6_rungByThroughput_53 rfl ?_
      refine lv_lmul hx hb dX6_rungByThroughput_54 ?_
      refine lv_lload hx hb dX6_rungByThroughput_55 (lv_at hl 2 rfl) ?_
      refine lc_gt (tgt := 64) hx hb dX6_rungByThroughput_57 dX6_rungByThroughput_58 (by decide) (fun c2 => ?_) (fun c2 => ?_)
      · have h := iteP c2 h
        refine lv_iinc (v := l6 + (-1)) (lv' := [(6, .int (l6 + (-1))), (1, .ref h6), (2, .int l2), (4, .long l4)]) hx hb dX6_rungByThroughput_64 hl (k := 3) rfl rfl (by decide) rfl (fun ls hl => ?_)
        refine lv_goto (tgt := 40) hx hb dX6_rungByThroughput_67 (by decide) ?_
        exact ih l2 l4 (l6 + (-1)) _ (by first | exact mu_dnA (by assumption) hmu | exact mu_dnB (by assumption) hmu | exact mu_dnC (by assumption) hmu | exact mu_dnD (by assumption) hmu) h  (lv_sub hl [1, 2, 3, 0] rfl)
      · have h := iteN c2 h
        refine lv_iload hx hb dX6_rungByThroughput_61 (lv_at hl 3 rfl) ?_
        subst h
        exact rRi S hr hlk dX6_rungByThroughput_63
set_option maxHeartbeats 4000000 in
set_option maxRecDepth 100000 in
theorem c_X6_rungByThroughput (l : Launch) (D : va_G) (cI cJ cC : ClassId) (h0 h1 h2 h3 h4 h5 h6 h7 kthis_video kthis_audio kthis_download kthis_accounts kthis_line kthis_stream_video kthis_stream_audio kthis_stream_plan : Nat) (v0_mode v0_startThreshold v0_lastRung v0_lastChange v0_state v0_time v0_position v1_kept : Int32) (r2 r3 : Nat → Int64) (r5 : Nat → Int32) (v6_most v6_rungs : Int32) (r7 : Nat → Int32) (p1 : Int32) (t0 : Int32) (h : f_X6_rungByThroughput v1_kept r2 r3 r5 v6_rungs r7 p1 = t0) : Met l yX6_rungByThroughput (Cond.code yX6_rungByThroughput cX6_rungByThroughput 7 (some .int) :: TB) rm_X6_rungByThroughput (PreR D cI cJ cC [(h0, .inr (6, [.ref h4, .ref kthis_video, .ref kthis_audio, .ref h1, .ref kthis_download, .ref kthis_accounts, .ref kthis_line, .int v0_mode, .int v0_startThreshold, .int v0_lastRung, .int v0_lastChange, .int v0_state, .int v0_time, .int v0_position])), (h1, .inr (5, [.ref h2, .ref h3, .int v1_kept])), (h2, .inl (cJ, 10, .inr (.inl r2))), (h3, .inl (cJ, 10, .inr (.inl r3))), (h4, .inr (8, [.ref h5, .ref kthis_stream_video, .ref kthis_stream_audio, .ref kthis_stream_plan])), (h5, .inl (cI, 15, .inl r5)), (h6, .inr (2, [.ref h7, .int v6_most, .int v6_rungs])), (h7, .inl (cI, 6, .inl r7))] [.ref h0, .ref h6, .int p1]) (QR (some (.int t0))) 0 0 free0 := by
  refine metR (own := RX6) (by decide) rfl (Nat.le_of_ble_eq_true rfl) ?_
  intro p e s m below meth c S hr hlk hP hK ls hl
  have hx := S.1
  have hb := S.2.1
  have hl : lv_has ls 7 [(0, .ref h0), (1, .ref h6), (2, .int p1)] := hl
  refine lv_aload_n hx hb dX6_rungByThroughput_0 rfl (lv_at hl 0 rfl) ?_
  refine gf_X6_24 (v := .ref h1) S hK hP 0 rfl rfl dX6_rungByThroughput_1 ?_
  refine lv_aload_n hx hb dX6_rungByThroughput_4 rfl (lv_at hl 0 rfl) ?_
  refine gf_X6_53 (v := .ref h4) S hK hP 0 rfl rfl dX6_rungByThroughput_5 ?_
  refine lv_bipush (v := 8) hx hb dX6_rungByThroughput_8 lb_8 ?_
  refine rdV (pc1 := 13) (rest := [.ref h1]) (st1 := [.int (f_X8_valueOf r5 8), .ref h1]) S (c_X8_valueOf l D cI cJ cC h4 h5 kthis_stream_video kthis_stream_audio kthis_stream_plan r5 8 _ rfl) (cw_X6_176 S.2.2.2.2 ⟨Nat.le_of_ble_eq_true rfl, Nat.le_of_ble_eq_true rfl⟩) hK (hP.sub [4, 5] rfl) rfl rfl rfl rfl hl.1 rfl (Nat.le_of_ble_eq_true rfl) ⟨Nat.zero_le _, Nat.zero_le _⟩ rfl rfl dX6_rungByThroughput_10 ?_
  refine rdV (pc1 := 16) (rest := []) (st1 := [.int (f_X5_rateOver v1_kept r2 r3 (f_X8_valueOf r5 8))]) S (c_X5_rateOver l D cI cJ cC h1 h2 h3 v1_kept r2 r3 (f_X8_valueOf r5 8) _ rfl) (cw_X6_289 S.2.2.2.2 ⟨Nat.le_of_ble_eq_true rfl, Nat.le_of_ble_eq_true rfl⟩) hK (hP.sub [1, 2, 3] rfl) rfl rfl rfl rfl hl.1 rfl (Nat.le_of_ble_eq_true rfl) ⟨Nat.zero_le _, Nat.zero_le _⟩ rfl rfl dX6_rungByThroughput_13 ?_
  refine lv_topi (fun y1 e_y1 => ?_)
  have h := bnd_eq e_y1.symm h
  refine lv_istore_n (lv' := [(3, .int y1), (0, .ref h0), (1, .ref h6), (2, .int p1)]) hx hb dX6_rungByThroughput_16 rfl hl (by decide) rfl (fun ls hl => ?_)
  refine lv_iload_n hx hb dX6_rungByThroughput_17 rfl (lv_at hl 0 rfl) ?_
  refine lv_i2l hx hb dX6_rungByThroughput_18 rfl ?_
  refine lv_aload_n hx hb dX6_rungByThroughput_19 rfl (lv_at hl 1 rfl) ?_
  refine gf_X6_53 (v := .ref h4) S hK hP 0 rfl rfl dX6_rungByThroughput_20 ?_
  refine lv_bipush (v := 9) hx hb dX6_rungByThroughput_23 lb_9 ?_
  refine rdV (pc1 := 28) (rest := [.long y1.toInt64]) (st1 := [.int (f_X8_valueOf r5 9), .long y1.toInt64]) S (c_X8_valueOf l D cI cJ cC h4 h5 kthis_stream_video kthis_stream_audio kthis_stream_plan r5 9 _ rfl) (cw_X6_176 S.2.2.2.2 ⟨Nat.le_of_ble_eq_true rfl, Nat.le_of_ble_eq_true rfl⟩) hK (hP.sub [4, 5] rfl) rfl rfl rfl rfl hl.1 rfl (Nat.le_of_ble_eq_true rfl) ⟨Nat.zero_le _, Nat.zero_le _⟩ rfl rfl dX6_rungByThroughput_25 ?_
  refine lv_i2l hx hb dX6_rungByThroughput_28 rfl ?_
  refine lv_lmul hx hb dX6_rungByThroughput_29 ?_
  refine lv_topl (fun z2 e_z2 => ?_)
  have h := bnd_eq e_z2.symm h
  refine lv_lstore (lv' := [(4, .long z2), (3, .int y1), (0, .ref h0), (1, .ref h6), (2, .int p1)]) hx hb dX6_rungByThroughput_30 hl (by decide) rfl (fun ls hl => ?_)
  refine lv_aload_n hx hb dX6_rungByThroughput_32 rfl (lv_at hl 3 rfl) ?_
  refine gf_X6_171 (v := .int v6_rungs) S hK hP 6 rfl rfl dX6_rungByThroughput_33 ?_
  refine lv_iconst (v := 1) hx hb dX6_rungByThroughput_36 li_1 ?_
  refine lv_isub hx hb dX6_rungByThroughput_37 ?_
  refine lv_istore (lv' := [(6, .int (v6_rungs - 1)), (4, .long z2), (3, .int y1), (0, .ref h0), (1, .ref h6), (2, .int p1)]) hx hb dX6_rungByThroughput_38 hl (by decide) rfl (fun ls hl => ?_)
  exact k_X6_rungByThroughput_b40 S hr hlk hK hP _ p1 z2 (v6_rungs - 1) _ (Nat.lt_succ_self _) h  (lv_sub hl [4, 5, 1, 0] rfl)
abbrev rm_X6_rungByBuffer : Room := { frames := 2, cells := 0, slots := 0, locals := 42 }
theorem dX6_rungByBuffer_0 : decode cX6_rungByBuffer 0 = .ok (.aload_n 0, 1) := by decide +kernel
theorem dX6_rungByBuffer_1 : decode cX6_rungByBuffer 1 = .ok (.iconst 0, 1) := by decide +kernel
theorem dX6_rungByBuffer_2 : decode cX6_rungByBuffer 2 = .ok (.invokevirtual 183, 3) := by decide +kernel
theorem dX6_rungByBuffer_5 : decode cX6_rungByBuffer 5 = .ok (.istore_n 1, 1) := by decide +kernel
theorem dX6_rungByBuffer_6 : decode cX6_rungByBuffer 6 = .ok (.aload_n 0, 1) := by decide +kernel
theorem dX6_rungByBuffer_7 : decode cX6_rungByBuffer 7 = .ok (.getfield 53, 3) := by decide +kernel
theorem dX6_rungByBuffer_10 : decode cX6_rungByBuffer 10 = .ok (.iconst 5, 1) := by decide +kernel
theorem dX6_rungByBuffer_11 : decode cX6_rungByBuffer 11 = .ok (.invokevirtual 176, 3) := by decide +kernel
theorem dX6_rungByBuffer_14 : decode cX6_rungByBuffer 14 = .ok (.istore_n 2, 1) := by decide +kernel
theorem dX6_rungByBuffer_15 : decode cX6_rungByBuffer 15 = .ok (.aload_n 0, 1) := by decide +kernel
theorem dX6_rungByBuffer_16 : decode cX6_rungByBuffer 16 = .ok (.getfield 53, 3) := by decide +kernel
theorem dX6_rungByBuffer_19 : decode cX6_rungByBuffer 19 = .ok (.bipush 6, 2) := by decide +kernel
theorem dX6_rungByBuffer_21 : decode cX6_rungByBuffer 21 = .ok (.invokevirtual 176, 3) := by decide +kernel
theorem dX6_rungByBuffer_24 : decode cX6_rungByBuffer 24 = .ok (.istore_n 3, 1) := by decide +kernel
theorem dX6_rungByBuffer_25 : decode cX6_rungByBuffer 25 = .ok (.aload_n 0, 1) := by decide +kernel
theorem dX6_rungByBuffer_26 : decode cX6_rungByBuffer 26 = .ok (.getfield 53, 3) := by decide +kernel
theorem dX6_rungByBuffer_29 : decode cX6_rungByBuffer 29 = .ok (.getfield 266, 3) := by decide +kernel
theorem dX6_rungByBuffer_32 : decode cX6_rungByBuffer 32 = .ok (.getfield 171, 3) := by decide +kernel
theorem dX6_rungByBuffer_35 : decode cX6_rungByBuffer 35 = .ok (.iconst 1, 1) := by decide +kernel
theorem dX6_rungByBuffer_36 : decode cX6_rungByBuffer 36 = .ok (.isub, 1) := by decide +kernel
theorem dX6_rungByBuffer_37 : decode cX6_rungByBuffer 37 = .ok (.istore 4, 2) := by decide +kernel
theorem dX6_rungByBuffer_39 : decode cX6_rungByBuffer 39 = .ok (.iload_n 1, 1) := by decide +kernel
theorem dX6_rungByBuffer_40 : decode cX6_rungByBuffer 40 = .ok (.iload_n 2, 1) := by decide +kernel
theorem dX6_rungByBuffer_41 : decode cX6_rungByBuffer 41 = .ok (.if_icmp .ge 5, 3) := by decide +kernel
theorem dX6_rungByBuffer_44 : decode cX6_rungByBuffer 44 = .ok (.iconst 0, 1) := by decide +kernel
theorem dX6_rungByBuffer_45 : decode cX6_rungByBuffer 45 = .ok (.ireturn, 1) := by decide +kernel
theorem dX6_rungByBuffer_46 : decode cX6_rungByBuffer 46 = .ok (.iload_n 1, 1) := by decide +kernel
theorem dX6_rungByBuffer_47 : decode cX6_rungByBuffer 47 = .ok (.iload_n 3, 1) := by decide +kernel
theorem dX6_rungByBuffer_48 : decode cX6_rungByBuffer 48 = .ok (.if_icmp .ge 8, 3) := by decide +kernel
theorem dX6_rungByBuffer_51 : decode cX6_rungByBuffer 51 = .ok (.iload_n 3, 1) := by decide +kernel
theorem dX6_rungByBuffer_52 : decode cX6_rungByBuffer 52 = .ok (.iload_n 2, 1) := by decide +kernel
theorem dX6_rungByBuffer_53 : decode cX6_rungByBuffer 53 = .ok (.if_icmp .gt 6, 3) := by decide +kernel
theorem dX6_rungByBuffer_56 : decode cX6_rungByBuffer 56 = .ok (.iload 4, 2) := by decide +kernel
theorem dX6_rungByBuffer_58 : decode cX6_rungByBuffer 58 = .ok (.ireturn, 1) := by decide +kernel
theorem dX6_rungByBuffer_59 : decode cX6_rungByBuffer 59 = .ok (.iload 4, 2) := by decide +kernel
theorem dX6_rungByBuffer_61 : decode cX6_rungByBuffer 61 = .ok (.iload_n 1, 1) := by decide +kernel
theorem dX6_rungByBuffer_62 : decode cX6_rungByBuffer 62 = .ok (.iload_n 2, 1) := by decide +kernel
theorem dX6_rungByBuffer_63 : decode cX6_rungByBuffer 63 = .ok (.isub, 1) := by decide +kernel
theorem dX6_rungByBuffer_64 : decode cX6_rungByBuffer 64 = .ok (.imul, 1) := by decide +kernel
theorem dX6_rungByBuffer_65 : decode cX6_rungByBuffer 65 = .ok (.iload_n 3, 1) := by decide +kernel
theorem dX6_rungByBuffer_66 : decode cX6_rungByBuffer 66 = .ok (.iload_n 2, 1) := by decide +kernel
theorem dX6_rungByBuffer_67 : decode cX6_rungByBuffer 67 = .ok (.isub, 1) := by decide +kernel
theorem dX6_rungByBuffer_68 : decode cX6_rungByBuffer 68 = .ok (.idiv, 1) := by decide +kernel
theorem dX6_rungByBuffer_69 : decode cX6_rungByBuffer 69 = .ok (.ireturn, 1) := by decide +kernel
theorem gf_X6_266 {p : Program} {l : Launch} {e : Env} {R : Room} {s : State} {m : MethodId} {args : Array Value} {below : List Frame} {meth : Method} {c : Code} {H : Heap} {locs : List Loc} {cells slots : Nat} {Q : State → Prop} {cc : ByteArray} {pc nL : Nat} {ls : Array Slot} {rest : List Value} {D : va_G} {ws : va_W} {tys : List (ClassId × FieldType)} (S : CallFix p m c cc nL s args TB RX6) (hK : va_K D vwCl tys s) (hP : va_P D vwCl ws H) (q0 : Nat) {a : Nat} {fs : List Value} (he : ws[q0]? = some (a, .inr (8, fs))) {v : Value} (hv : fs[1]? = some v) (hdg : decode cc pc = .ok (.getfield 266, 3))
    (kk : W p l e R s m args below meth c H locs cells slots Q (F0 m (pc + 3) ls (v :: rest))) : W p l e R s m args below meth c H locs cells slots Q (F0 m pc ls (.ref a :: rest)) :=
  va_get (D := D) (ci := 8) (C := RX8) (T := TX8) (N := 4) S.1 S.2.1 S.2.2.2.2 iwX8 S.2.2.2.1 hK hP q0 he rfl 1 (by decide) (S.2.2.2.2 _ tb100) (fun _ h9 => h9) hv hdg kk
def f_X6_rungByBuffer (v0_position : Int32) (r2 : Nat → Int32) (v3_rungs v4_segments : Int32) : Option Int32 :=
  bnd (f_X6_bufferOf_0 v0_position r2 v3_rungs v4_segments) fun (y1 : Int32) =>
  if (f_X8_valueOf r2 5) ≤ y1 then
    if (f_X8_valueOf r2 6) ≤ y1 then
      some (v3_rungs - 1)
    else
      if (f_X8_valueOf r2 5) < (f_X8_valueOf r2 6) then
        grd (nz32 ((f_X8_valueOf r2 6) - (f_X8_valueOf r2 5))) <|
        some (((v3_rungs - 1) * (y1 - (f_X8_valueOf r2 5))) / ((f_X8_valueOf r2 6) - (f_X8_valueOf r2 5)))
      else
        some (v3_rungs - 1)
  else
    some 0
set_option maxHeartbeats 4000000 in
set_option maxRecDepth 100000 in
theorem c_X6_rungByBuffer (l : Launch) (D : va_G) (cI cJ cC : ClassId) (h0 h1 h2 h3 h4 kthis_audio kthis_samples kthis_download kthis_accounts kthis_line kthis_stream_audio kthis_stream_plan kthis_stream_video_rates kthis_video_rungs : Nat) (v0_mode v0_startThreshold v0_lastRung v0_lastChange v0_state v0_time v0_position : Int32) (r2 : Nat → Int32) (v3_most v3_rungs v4_segments : Int32)  (t0 : Int32) (h : f_X6_rungByBuffer v0_position r2 v3_rungs v4_segments = some t0) : Met l yX6_rungByBuffer (Cond.code yX6_rungByBuffer cX6_rungByBuffer 5 (some .int) :: TB) rm_X6_rungByBuffer (PreR D cI cJ cC [(h0, .inr (6, [.ref h1, .ref h4, .ref kthis_audio, .ref kthis_samples, .ref kthis_download, .ref kthis_accounts, .ref kthis_line, .int v0_mode, .int v0_startThreshold, .int v0_lastRung, .int v0_lastChange, .int v0_state, .int v0_time, .int v0_position])), (h1, .inr (8, [.ref h2, .ref h3, .ref kthis_stream_audio, .ref kthis_stream_plan])), (h2, .inl (cI, 15, .inl r2)), (h3, .inr (2, [.ref kthis_stream_video_rates, .int v3_most, .int v3_rungs])), (h4, .inr (7, [.ref kthis_video_rungs, .int v4_segments]))] [.ref h0]) (QR (some (.int t0))) 0 0 free0 := by
  refine metR (own := RX6) (by decide) rfl (Nat.le_of_ble_eq_true rfl) ?_
  intro p e s m below meth c S hr hlk hP hK ls hl
  have hx := S.1
  have hb := S.2.1
  have hl : lv_has ls 5 [(0, .ref h0)] := hl
  refine lv_aload_n hx hb dX6_rungByBuffer_0 rfl (lv_at hl 0 rfl) ?_
  refine lv_iconst (v := 0) hx hb dX6_rungByBuffer_1 li_0 ?_
  refine rdV (pc1 := 5) (rest := []) (st1 := [.int (f_X6_bufferOf_0 v0_position r2 v3_rungs v4_segments)]) S (c_X6_bufferOf_0 l D cI cJ cC h0 h1 h2 h3 h4 kthis_audio kthis_samples kthis_download kthis_accounts kthis_line kthis_stream_audio kthis_stream_plan kthis_stream_video_rates kthis_video_rungs v0_mode v0_startThreshold v0_lastRung v0_lastChange v0_state v0_time v0_position r2 v3_most v3_rungs v4_segments 0 rfl _ rfl) (cw_X6_183 S.2.2.2.2 ⟨Nat.le_of_ble_eq_true rfl, Nat.le_of_ble_eq_true rfl⟩) hK (hP.sub [0, 1, 2, 3, 4] rfl) rfl rfl rfl rfl hl.1 rfl (Nat.le_of_ble_eq_true rfl) ⟨Nat.zero_le _, Nat.zero_le _⟩ rfl rfl dX6_rungByBuffer_2 ?_
  refine lv_topi (fun y1 e_y1 => ?_)
  have h := bnd_eq e_y1.symm h
  refine lv_istore_n (lv' := [(1, .int y1), (0, .ref h0)]) hx hb dX6_rungByBuffer_5 rfl hl (by decide) rfl (fun ls hl => ?_)
  refine lv_aload_n hx hb dX6_rungByBuffer_6 rfl (lv_at hl 1 rfl) ?_
  refine gf_X6_53 (v := .ref h1) S hK hP 0 rfl rfl dX6_rungByBuffer_7 ?_
  refine lv_iconst (v := 5) hx hb dX6_rungByBuffer_10 li_5 ?_
  refine rdV (pc1 := 14) (rest := []) (st1 := [.int (f_X8_valueOf r2 5)]) S (c_X8_valueOf l D cI cJ cC h1 h2 h3 kthis_stream_audio kthis_stream_plan r2 5 _ rfl) (cw_X6_176 S.2.2.2.2 ⟨Nat.le_of_ble_eq_true rfl, Nat.le_of_ble_eq_true rfl⟩) hK (hP.sub [1, 2] rfl) rfl rfl rfl rfl hl.1 rfl (Nat.le_of_ble_eq_true rfl) ⟨Nat.zero_le _, Nat.zero_le _⟩ rfl rfl dX6_rungByBuffer_11 ?_
  refine lv_istore_n (lv' := [(2, .int (f_X8_valueOf r2 5)), (1, .int y1), (0, .ref h0)]) hx hb dX6_rungByBuffer_14 rfl hl (by decide) rfl (fun ls hl => ?_)
  refine lv_aload_n hx hb dX6_rungByBuffer_15 rfl (lv_at hl 2 rfl) ?_
  refine gf_X6_53 (v := .ref h1) S hK hP 0 rfl rfl dX6_rungByBuffer_16 ?_
  refine lv_bipush (v := 6) hx hb dX6_rungByBuffer_19 lb_6 ?_
  refine rdV (pc1 := 24) (rest := []) (st1 := [.int (f_X8_valueOf r2 6)]) S (c_X8_valueOf l D cI cJ cC h1 h2 h3 kthis_stream_audio kthis_stream_plan r2 6 _ rfl) (cw_X6_176 S.2.2.2.2 ⟨Nat.le_of_ble_eq_true rfl, Nat.le_of_ble_eq_true rfl⟩) hK (hP.sub [1, 2] rfl) rfl rfl rfl rfl hl.1 rfl (Nat.le_of_ble_eq_true rfl) ⟨Nat.zero_le _, Nat.zero_le _⟩ rfl rfl dX6_rungByBuffer_21 ?_
  refine lv_istore_n (lv' := [(3, .int (f_X8_valueOf r2 6)), (2, .int (f_X8_valueOf r2 5)), (1, .int y1), (0, .ref h0)]) hx hb dX6_rungByBuffer_24 rfl hl (by decide) rfl (fun ls hl => ?_)
  refine lv_aload_n hx hb dX6_rungByBuffer_25 rfl (lv_at hl 3 rfl) ?_
  refine gf_X6_53 (v := .ref h1) S hK hP 0 rfl rfl dX6_rungByBuffer_26 ?_
  refine gf_X6_266 (v := .ref h3) S hK hP 1 rfl rfl dX6_rungByBuffer_29 ?_
  refine gf_X6_171 (v := .int v3_rungs) S hK hP 3 rfl rfl dX6_rungByBuffer_32 ?_
  refine lv_iconst (v := 1) hx hb dX6_rungByBuffer_35 li_1 ?_
  refine lv_isub hx hb dX6_rungByBuffer_36 ?_
  refine lv_istore (lv' := [(4, .int (v3_rungs - 1)), (3, .int (f_X8_valueOf r2 6)), (2, .int (f_X8_valueOf r2 5)), (1, .int y1), (0, .ref h0)]) hx hb dX6_rungByBuffer_37 hl (by decide) rfl (fun ls hl => ?_)
  refine lv_iload_n hx hb dX6_rungByBuffer_39 rfl (lv_at hl 3 rfl) ?_
  refine lv_iload_n hx hb dX6_rungByBuffer_40 rfl (lv_at hl 2 rfl) ?_
  refine lv_icmp_ge (tgt := 46) hx hb dX6_rungByBuffer_41 (by decide) (fun c2 => ?_) (fun c2 => ?_)
  · have h := iteP c2 h
    refine lv_iload_n hx hb dX6_rungByBuffer_46 rfl (lv_at hl 3 rfl) ?_
    refine lv_iload_n hx hb dX6_rungByBuffer_47 rfl (lv_at hl 1 rfl) ?_
    refine lv_icmp_ge (tgt := 56) hx hb dX6_rungByBuffer_48 (by decide) (fun c3 => ?_) (fun c3 => ?_)
    · have h := iteP c3 h
      refine lv_iload hx hb dX6_rungByBuffer_56 (lv_at hl 0 rfl) ?_
      have h := Option.some.inj h
      subst h
      exact rRi S hr hlk dX6_rungByBuffer_58
    · have h := iteN c3 h
      refine lv_iload_n hx hb dX6_rungByBuffer_51 rfl (lv_at hl 1 rfl) ?_
      refine lv_iload_n hx hb dX6_rungByBuffer_52 rfl (lv_at hl 2 rfl) ?_
      refine lv_icmp_gt (tgt := 59) hx hb dX6_rungByBuffer_53 (by decide) (fun c4 => ?_) (fun c4 => ?_)
      · have h := iteP c4 h
        refine lv_iload hx hb dX6_rungByBuffer_59 (lv_at hl 0 rfl) ?_
        refine lv_iload_n hx hb dX6_rungByBuffer_61 rfl (lv_at hl 3 rfl) ?_
        refine lv_iload_n hx hb dX6_rungByBuffer_62 rfl (lv_at hl 2 rfl) ?_
        refine lv_isub hx hb dX6_rungByBuffer_63 ?_
        refine lv_imul hx hb dX6_rungByBuffer_64 ?_
        refine lv_iload_n hx hb dX6_rungByBuffer_65 rfl (lv_at hl 1 rfl) ?_
        refine lv_iload_n hx hb dX6_rungByBuffer_66 rfl (lv_at hl 2 rfl) ?_
        refine lv_isub hx hb dX6_rungByBuffer_67 ?_
        obtain ⟨g5, h⟩ := grd_eq h
        refine lv_idiv hx hb dX6_rungByBuffer_68 (nz32_ne g5) ?_
        have h := Option.some.inj h
        subst h
        exact rRi S hr hlk dX6_rungByBuffer_69
      · have h := iteN c4 h
        refine lv_iload hx hb dX6_rungByBuffer_56 (lv_at hl 0 rfl) ?_
        have h := Option.some.inj h
        subst h
        exact rRi S hr hlk dX6_rungByBuffer_58
  · have h := iteN c2 h
    refine lv_iconst (v := 0) hx hb dX6_rungByBuffer_44 li_0 ?_
    have h := Option.some.inj h
    subst h
    exact rRi S hr hlk dX6_rungByBuffer_45
abbrev rm_X6_videoRung : Room := { frames := 3, cells := 0, slots := 0, locals := 66 }
theorem dX6_videoRung_0 : decode cX6_videoRung 0 = .ok (.aload_n 0, 1) := by decide +kernel
theorem dX6_videoRung_1 : decode cX6_videoRung 1 = .ok (.getfield 73, 3) := by decide +kernel
theorem dX6_videoRung_4 : decode cX6_videoRung 4 = .ok (.ifCond .ge 5, 3) := by decide +kernel
theorem dX6_videoRung_7 : decode cX6_videoRung 7 = .ok (.iconst 0, 1) := by decide +kernel
theorem dX6_videoRung_8 : decode cX6_videoRung 8 = .ok (.ireturn, 1) := by decide +kernel
theorem dX6_videoRung_9 : decode cX6_videoRung 9 = .ok (.aload_n 0, 1) := by decide +kernel
theorem dX6_videoRung_10 : decode cX6_videoRung 10 = .ok (.getfield 53, 3) := by decide +kernel
theorem dX6_videoRung_13 : decode cX6_videoRung 13 = .ok (.getfield 266, 3) := by decide +kernel
theorem dX6_videoRung_16 : decode cX6_videoRung 16 = .ok (.getfield 171, 3) := by decide +kernel
theorem dX6_videoRung_19 : decode cX6_videoRung 19 = .ok (.iconst 1, 1) := by decide +kernel
theorem dX6_videoRung_20 : decode cX6_videoRung 20 = .ok (.isub, 1) := by decide +kernel
theorem dX6_videoRung_21 : decode cX6_videoRung 21 = .ok (.istore_n 1, 1) := by decide +kernel
theorem dX6_videoRung_22 : decode cX6_videoRung 22 = .ok (.aload_n 0, 1) := by decide +kernel
theorem dX6_videoRung_23 : decode cX6_videoRung 23 = .ok (.getfield 57, 3) := by decide +kernel
theorem dX6_videoRung_26 : decode cX6_videoRung 26 = .ok (.iconst 1, 1) := by decide +kernel
theorem dX6_videoRung_27 : decode cX6_videoRung 27 = .ok (.if_icmp .eq 17, 3) := by decide +kernel
theorem dX6_videoRung_30 : decode cX6_videoRung 30 = .ok (.aload_n 0, 1) := by decide +kernel
theorem dX6_videoRung_31 : decode cX6_videoRung 31 = .ok (.aload_n 0, 1) := by decide +kernel
theorem dX6_videoRung_32 : decode cX6_videoRung 32 = .ok (.getfield 53, 3) := by decide +kernel
theorem dX6_videoRung_35 : decode cX6_videoRung 35 = .ok (.getfield 266, 3) := by decide +kernel
theorem dX6_videoRung_38 : decode cX6_videoRung 38 = .ok (.bipush 100, 2) := by decide +kernel
theorem dX6_videoRung_40 : decode cX6_videoRung 40 = .ok (.invokevirtual 159, 3) := by decide +kernel
theorem dX6_videoRung_43 : decode cX6_videoRung 43 = .ok (.istore_n 1, 1) := by decide +kernel
theorem dX6_videoRung_44 : decode cX6_videoRung 44 = .ok (.aload_n 0, 1) := by decide +kernel
theorem dX6_videoRung_45 : decode cX6_videoRung 45 = .ok (.getfield 57, 3) := by decide +kernel
theorem dX6_videoRung_48 : decode cX6_videoRung 48 = .ok (.ifCond .eq 12, 3) := by decide +kernel
theorem dX6_videoRung_51 : decode cX6_videoRung 51 = .ok (.iload_n 1, 1) := by decide +kernel
theorem dX6_videoRung_52 : decode cX6_videoRung 52 = .ok (.aload_n 0, 1) := by decide +kernel
theorem dX6_videoRung_53 : decode cX6_videoRung 53 = .ok (.invokevirtual 292, 3) := by decide +kernel
theorem dX6_videoRung_56 : decode cX6_videoRung 56 = .ok (.invokestatic 283, 3) := by decide +kernel
theorem dX6_videoRung_59 : decode cX6_videoRung 59 = .ok (.istore_n 1, 1) := by decide +kernel
theorem dX6_videoRung_60 : decode cX6_videoRung 60 = .ok (.iload_n 1, 1) := by decide +kernel
theorem dX6_videoRung_61 : decode cX6_videoRung 61 = .ok (.aload_n 0, 1) := by decide +kernel
theorem dX6_videoRung_62 : decode cX6_videoRung 62 = .ok (.getfield 73, 3) := by decide +kernel
theorem dX6_videoRung_65 : decode cX6_videoRung 65 = .ok (.if_icmp .gt 5, 3) := by decide +kernel
theorem dX6_videoRung_68 : decode cX6_videoRung 68 = .ok (.iload_n 1, 1) := by decide +kernel
theorem dX6_videoRung_69 : decode cX6_videoRung 69 = .ok (.ireturn, 1) := by decide +kernel
theorem dX6_videoRung_70 : decode cX6_videoRung 70 = .ok (.aload_n 0, 1) := by decide +kernel
theorem dX6_videoRung_71 : decode cX6_videoRung 71 = .ok (.getfield 79, 3) := by decide +kernel
theorem dX6_videoRung_74 : decode cX6_videoRung 74 = .ok (.aload_n 0, 1) := by decide +kernel
theorem dX6_videoRung_75 : decode cX6_videoRung 75 = .ok (.getfield 76, 3) := by decide +kernel
theorem dX6_videoRung_78 : decode cX6_videoRung 78 = .ok (.isub, 1) := by decide +kernel
theorem dX6_videoRung_79 : decode cX6_videoRung 79 = .ok (.aload_n 0, 1) := by decide +kernel
theorem dX6_videoRung_80 : decode cX6_videoRung 80 = .ok (.getfield 53, 3) := by decide +kernel
theorem dX6_videoRung_83 : decode cX6_videoRung 83 = .ok (.bipush 10, 2) := by decide +kernel
theorem dX6_videoRung_85 : decode cX6_videoRung 85 = .ok (.invokevirtual 176, 3) := by decide +kernel
theorem dX6_videoRung_88 : decode cX6_videoRung 88 = .ok (.if_icmp .ge 7, 3) := by decide +kernel
theorem dX6_videoRung_91 : decode cX6_videoRung 91 = .ok (.iconst 1, 1) := by decide +kernel
theorem dX6_videoRung_92 : decode cX6_videoRung 92 = .ok (.goto 4, 3) := by decide +kernel
theorem dX6_videoRung_95 : decode cX6_videoRung 95 = .ok (.iconst 0, 1) := by decide +kernel
theorem dX6_videoRung_96 : decode cX6_videoRung 96 = .ok (.istore_n 2, 1) := by decide +kernel
theorem dX6_videoRung_97 : decode cX6_videoRung 97 = .ok (.iload_n 2, 1) := by decide +kernel
theorem dX6_videoRung_98 : decode cX6_videoRung 98 = .ok (.ifCond .eq 10, 3) := by decide +kernel
theorem dX6_videoRung_101 : decode cX6_videoRung 101 = .ok (.aload_n 0, 1) := by decide +kernel
theorem dX6_videoRung_102 : decode cX6_videoRung 102 = .ok (.getfield 73, 3) := by decide +kernel
theorem dX6_videoRung_105 : decode cX6_videoRung 105 = .ok (.goto 9, 3) := by decide +kernel
theorem dX6_videoRung_108 : decode cX6_videoRung 108 = .ok (.aload_n 0, 1) := by decide +kernel
theorem dX6_videoRung_109 : decode cX6_videoRung 109 = .ok (.getfield 73, 3) := by decide +kernel
theorem dX6_videoRung_112 : decode cX6_videoRung 112 = .ok (.iconst 1, 1) := by decide +kernel
theorem dX6_videoRung_113 : decode cX6_videoRung 113 = .ok (.iadd, 1) := by decide +kernel
theorem dX6_videoRung_114 : decode cX6_videoRung 114 = .ok (.ireturn, 1) := by decide +kernel
theorem cw_X6_159 {R : Room} {s : State} {args : Array Value} (hts : ∀ w ∈ TB, w.before args s = true) (hR : rm_X6_rungByThroughput.frames + 1 ≤ R.frames ∧ 8 + (7 + 11) + rm_X6_rungByThroughput.locals ≤ R.locals) : CallW R s args RX6 RX6 159 yX6_rungByThroughput cX6_rungByThroughput 7 (some .int) (Cond.code yX6_rungByThroughput cX6_rungByThroughput 7 (some .int) :: TB) rm_X6_rungByThroughput 0 0 2 := cwV 2 hts (gV tb543 tb544 tb7 tb25 tb545) rfl rfl rfl ⟨rfl, by decide, by decide, by decide +kernel⟩ hR
theorem cw_X6_292 {R : Room} {s : State} {args : Array Value} (hts : ∀ w ∈ TB, w.before args s = true) (hR : rm_X6_rungByBuffer.frames + 1 ≤ R.frames ∧ 8 + (5 + 11) + rm_X6_rungByBuffer.locals ≤ R.locals) : CallW R s args RX6 RX6 292 yX6_rungByBuffer cX6_rungByBuffer 5 (some .int) (Cond.code yX6_rungByBuffer cX6_rungByBuffer 5 (some .int) :: TB) rm_X6_rungByBuffer 0 0 0 := cwV 0 hts (gV tb551 tb552 tb8 tb25 tb553) rfl rfl rfl ⟨rfl, by decide, by decide, by decide +kernel⟩ hR
def f_X6_videoRung_b60 (v0_lastRung v0_lastChange v0_time : Int32) (r5 : Nat → Int32) (l1 : Int32) : Option Int32 :=
  if v0_lastRung < l1 then
    if (f_X8_valueOf r5 10) ≤ (v0_time - v0_lastChange) then
      some (v0_lastRung + 1)
    else
      some v0_lastRung
  else
    some l1
def f_X6_videoRung_b44 (v0_mode v0_lastRung v0_lastChange v0_time v0_position : Int32) (r5 : Nat → Int32) (v6_rungs v8_segments : Int32) (l1 : Int32) : Option Int32 :=
  if v0_mode = 0 then
    f_X6_videoRung_b60 v0_lastRung v0_lastChange v0_time r5 l1
  else
    obnd (f_X6_rungByBuffer v0_position r5 v6_rungs v8_segments) fun (y2 : Int32) =>
    f_X6_videoRung_b60 v0_lastRung v0_lastChange v0_time r5 (mn32 l1 y2)
def f_X6_videoRung (v0_mode v0_lastRung v0_lastChange v0_time v0_position v1_kept : Int32) (r2 r3 : Nat → Int64) (r5 : Nat → Int32) (v6_rungs : Int32) (r7 : Nat → Int32) (v8_segments : Int32) : Option Int32 :=
  if 0 ≤ v0_lastRung then
    if v0_mode = 1 then
      f_X6_videoRung_b44 v0_mode v0_lastRung v0_lastChange v0_time v0_position r5 v6_rungs v8_segments (v6_rungs - 1)
    else
      bnd (f_X6_rungByThroughput v1_kept r2 r3 r5 v6_rungs r7 100) fun (y3 : Int32) =>
      f_X6_videoRung_b44 v0_mode v0_lastRung v0_lastChange v0_time v0_position r5 v6_rungs v8_segments y3
  else
    some 0
set_option maxHeartbeats 4000000 in
set_option maxRecDepth 100000 in
theorem k_X6_videoRung_b60 {p : Program} {l : Launch} {e : Env} {s : State} {m : MethodId} {args : Array Value} {below : List Frame} {meth : Method} {c : Code} {D : va_G} {cI cJ cC : ClassId} {h0 h1 h2 h3 h4 h5 h6 h7 h8 kthis_audio kthis_download kthis_accounts kthis_line kthis_stream_audio kthis_stream_plan kthis_video_rungs : Nat} {v0_mode v0_startThreshold v0_lastRung v0_lastChange v0_state v0_time v0_position v1_kept : Int32} {r2 r3 : Nat → Int64} {r5 : Nat → Int32} {v6_most v6_rungs : Int32} {r7 : Nat → Int32} {v8_segments : Int32} {t0 : Int32}(S : CallFix p m c cX6_videoRung 3 s args TB RX6) (hr : meth.sig.returnType = (some .int)) (hlk : meth.locks = false) (hK : va_K D vwCl (ty3 cI cJ cC) s) (hP : va_P D vwCl [(h0, .inr (6, [.ref h4, .ref h8, .ref kthis_audio, .ref h1, .ref kthis_download, .ref kthis_accounts, .ref kthis_line, .int v0_mode, .int v0_startThreshold, .int v0_lastRung, .int v0_lastChange, .int v0_state, .int v0_time, .int v0_position])), (h1, .inr (5, [.ref h2, .ref h3, .int v1_kept])), (h2, .inl (cJ, 10, .inr (.inl r2))), (h3, .inl (cJ, 10, .inr (.inl r3))), (h4, .inr (8, [.ref h5, .ref h6, .ref kthis_stream_audio, .ref kthis_stream_plan])), (h5, .inl (cI, 15, .inl r5)), (h6, .inr (2, [.ref h7, .int v6_most, .int v6_rungs])), (h7, .inl (cI, 6, .inl r7)), (h8, .inr (7, [.ref kthis_video_rungs, .int v8_segments]))] s.heap) : ∀ (l1 : Int32) (ls : Array Slot), f_X6_videoRung_b60 v0_lastRung v0_lastChange v0_time r5 l1 = some t0 → lv_has ls 3 [(0, .ref h0), (1, .int l1)] → W p l e rm_X6_videoRung s m args below meth c s.heap [] 0 0 (MQ below (QR (some (.int t0))) args s 0 0 free0) (F0 m 60 ls []) := by
  have hx := S.1
  have hb := S.2.1
  intro l1 ls h hl
  refine lv_iload_n hx hb dX6_videoRung_60 rfl (lv_at hl 1 rfl) ?_
  refine lv_aload_n hx hb dX6_videoRung_61 rfl (lv_at hl 0 rfl) ?_
  refine gf_X6_73 (v := .int v0_lastRung) S hK hP 0 rfl rfl dX6_videoRung_62 ?_
  refine lv_icmp_gt (tgt := 70) hx hb dX6_videoRung_65 (by decide) (fun c1 => ?_) (fun c1 => ?_)
  · have h := iteP c1 h
    refine lv_aload_n hx hb dX6_videoRung_70 rfl (lv_at hl 0 rfl) ?_
    refine gf_X6_79 (v := .int v0_time) S hK hP 0 rfl rfl dX6_videoRung_71 ?_
    refine lv_aload_n hx hb dX6_videoRung_74 rfl (lv_at hl 0 rfl) ?_
    refine gf_X6_76 (v := .int v0_lastChange) S hK hP 0 rfl rfl dX6_videoRung_75 ?_
    refine lv_isub hx hb dX6_videoRung_78 ?_
    refine lv_aload_n hx hb dX6_videoRung_79 rfl (lv_at hl 0 rfl) ?_
    refine gf_X6_53 (v := .ref h4) S hK hP 0 rfl rfl dX6_videoRung_80 ?_
    refine lv_bipush (v := 10) hx hb dX6_videoRung_83 lb_10 ?_
    refine rdV (pc1 := 88) (rest := [.int (v0_time - v0_lastChange)]) (st1 := [.int (f_X8_valueOf r5 10), .int (v0_time - v0_lastChange)]) S (c_X8_valueOf l D cI cJ cC h4 h5 h6 kthis_stream_audio kthis_stream_plan r5 10 _ rfl) (cw_X6_176 S.2.2.2.2 ⟨Nat.le_of_ble_eq_true rfl, Nat.le_of_ble_eq_true rfl⟩) hK (hP.sub [4, 5] rfl) rfl rfl rfl rfl hl.1 rfl (Nat.le_of_ble_eq_true rfl) ⟨Nat.zero_le _, Nat.zero_le _⟩ rfl rfl dX6_videoRung_85 ?_
    refine lv_icmp_ge (tgt := 95) hx hb dX6_videoRung_88 (by decide) (fun c2 => ?_) (fun c2 => ?_)
    · have h := iteP c2 h
      refine lv_iconst (v := 0) hx hb dX6_videoRung_95 li_0 ?_
      refine lv_istore_n (lv' := [(2, .int 0), (0, .ref h0), (1, .int l1)]) hx hb dX6_videoRung_96 rfl hl (by decide) rfl (fun ls hl => ?_)
      refine lv_iload_n hx hb dX6_videoRung_97 rfl (lv_at hl 0 rfl) ?_
      refine lv_if_eq (tgt := 108) hx hb dX6_videoRung_98 (by decide) (fun _ => ?_) (fun c9 => absurd (by decide) c9)
      refine lv_aload_n hx hb dX6_videoRung_108 rfl (lv_at hl 1 rfl) ?_
      refine gf_X6_73 (v := .int v0_lastRung) S hK hP 0 rfl rfl dX6_videoRung_109 ?_
      refine lv_iconst (v := 1) hx hb dX6_videoRung_112 li_1 ?_
      refine lv_iadd hx hb dX6_videoRung_113 ?_
      have h := Option.some.inj h
      subst h
      exact rRi S hr hlk dX6_videoRung_114
    · have h := iteN c2 h
      refine lv_iconst (v := 1) hx hb dX6_videoRung_91 li_1 ?_
      refine lv_goto (tgt := 96) hx hb dX6_videoRung_92 (by decide) ?_
      refine lv_istore_n (lv' := [(2, .int 1), (0, .ref h0), (1, .int l1)]) hx hb dX6_videoRung_96 rfl hl (by decide) rfl (fun ls hl => ?_)
      refine lv_iload_n hx hb dX6_videoRung_97 rfl (lv_at hl 0 rfl) ?_
      refine lv_if_eq (tgt := 108) hx hb dX6_videoRung_98 (by decide) (fun c9 => absurd c9 (by decide)) (fun _ => ?_)
      refine lv_aload_n hx hb dX6_videoRung_101 rfl (lv_at hl 1 rfl) ?_
      refine gf_X6_73 (v := .int v0_lastRung) S hK hP 0 rfl rfl dX6_videoRung_102 ?_
      refine lv_goto (tgt := 114) hx hb dX6_videoRung_105 (by decide) ?_
      have h := Option.some.inj h
      subst h
      exact rRi S hr hlk dX6_videoRung_114
  · have h := iteN c1 h
    refine lv_iload_n hx hb dX6_videoRung_68 rfl (lv_at hl 1 rfl) ?_
    have h := Option.some.inj h
    subst h
    exact rRi S hr hlk dX6_videoRung_69
set_option maxHeartbeats 4000000 in
set_option maxRecDepth 100000 in
theorem k_X6_videoRung_b44 {p : Program} {l : Launch} {e : Env} {s : State} {m : MethodId} {args : Array Value} {below : List Frame} {meth : Method} {c : Code} {D : va_G} {cI cJ cC : ClassId} {h0 h1 h2 h3 h4 h5 h6 h7 h8 kthis_audio kthis_download kthis_accounts kthis_line kthis_stream_audio kthis_stream_plan kthis_video_rungs : Nat} {v0_mode v0_startThreshold v0_lastRung v0_lastChange v0_state v0_time v0_position v1_kept : Int32} {r2 r3 : Nat → Int64} {r5 : Nat → Int32} {v6_most v6_rungs : Int32} {r7 : Nat → Int32} {v8_segments : Int32} {t0 : Int32}(S : CallFix p m c cX6_videoRung 3 s args TB RX6) (hr : meth.sig.returnType = (some .int)) (hlk : meth.locks = false) (hK : va_K D vwCl (ty3 cI cJ cC) s) (hP : va_P D vwCl [(h0, .inr (6, [.ref h4, .ref h8, .ref kthis_audio, .ref h1, .ref kthis_download, .ref kthis_accounts, .ref kthis_line, .int v0_mode, .int v0_startThreshold, .int v0_lastRung, .int v0_lastChange, .int v0_state, .int v0_time, .int v0_position])), (h1, .inr (5, [.ref h2, .ref h3, .int v1_kept])), (h2, .inl (cJ, 10, .inr (.inl r2))), (h3, .inl (cJ, 10, .inr (.inl r3))), (h4, .inr (8, [.ref h5, .ref h6, .ref kthis_stream_audio, .ref kthis_stream_plan])), (h5, .inl (cI, 15, .inl r5)), (h6, .inr (2, [.ref h7, .int v6_most, .int v6_rungs])), (h7, .inl (cI, 6, .inl r7)), (h8, .inr (7, [.ref kthis_video_rungs, .int v8_segments]))] s.heap) : ∀ (l1 : Int32) (ls : Array Slot), f_X6_videoRung_b44 v0_mode v0_lastRung v0_lastChange v0_time v0_position r5 v6_rungs v8_segments l1 = some t0 → lv_has ls 3 [(0, .ref h0), (1, .int l1)] → W p l e rm_X6_videoRung s m args below meth c s.heap [] 0 0 (MQ below (QR (some (.int t0))) args s 0 0 free0) (F0 m 44 ls []) := by
  have hx := S.1
  have hb := S.2.1
  intro l1 ls h hl
  refine lv_aload_n hx hb dX6_videoRung_44 rfl (lv_at hl 0 rfl) ?_
  refine gf_X6_57 (v := .int v0_mode) S hK hP 0 rfl rfl dX6_videoRung_45 ?_
  refine lv_if_eq (tgt := 60) hx hb dX6_videoRung_48 (by decide) (fun c1 => ?_) (fun c1 => ?_)
  · have h := iteP c1 h
    exact k_X6_videoRung_b60 S hr hlk hK hP l1 _ h  (lv_sub hl [0, 1] rfl)
  · have h := iteN c1 h
    refine lv_iload_n hx hb dX6_videoRung_51 rfl (lv_at hl 1 rfl) ?_
    refine lv_aload_n hx hb dX6_videoRung_52 rfl (lv_at hl 0 rfl) ?_
    obtain ⟨y2, e_y2, h⟩ := obnd_eq h
    refine rdV (pc1 := 56) (rest := [.int l1]) (st1 := [.int y2, .int l1]) S (c_X6_rungByBuffer l D cI cJ cC h0 h4 h5 h6 h8 kthis_audio h1 kthis_download kthis_accounts kthis_line kthis_stream_audio kthis_stream_plan h7 kthis_video_rungs v0_mode v0_startThreshold v0_lastRung v0_lastChange v0_state v0_time v0_position r5 v6_most v6_rungs v8_segments  y2 e_y2) (cw_X6_292 S.2.2.2.2 ⟨Nat.le_of_ble_eq_true rfl, Nat.le_of_ble_eq_true rfl⟩) hK (hP.sub [0, 4, 5, 6, 8] rfl) rfl rfl rfl rfl hl.1 rfl (Nat.le_of_ble_eq_true rfl) ⟨Nat.zero_le _, Nat.zero_le _⟩ rfl rfl dX6_videoRung_53 ?_
    refine mn32w S hl.1 tb554 (Nat.le_of_ble_eq_true rfl) (Nat.le_of_ble_eq_true rfl) (Nat.zero_le _) (Nat.zero_le _) dX6_videoRung_56 ?_
    refine lv_istore_n (lv' := [(1, .int (mn32 l1 y2)), (0, .ref h0)]) hx hb dX6_videoRung_59 rfl hl (by decide) rfl (fun ls hl => ?_)
    exact k_X6_videoRung_b60 S hr hlk hK hP (mn32 l1 y2) _ h  (lv_sub hl [1, 0] rfl)
set_option maxHeartbeats 4000000 in
set_option maxRecDepth 100000 in
theorem c_X6_videoRung (l : Launch) (D : va_G) (cI cJ cC : ClassId) (h0 h1 h2 h3 h4 h5 h6 h7 h8 kthis_audio kthis_download kthis_accounts kthis_line kthis_stream_audio kthis_stream_plan kthis_video_rungs : Nat) (v0_mode v0_startThreshold v0_lastRung v0_lastChange v0_state v0_time v0_position v1_kept : Int32) (r2 r3 : Nat → Int64) (r5 : Nat → Int32) (v6_most v6_rungs : Int32) (r7 : Nat → Int32) (v8_segments : Int32)  (t0 : Int32) (h : f_X6_videoRung v0_mode v0_lastRung v0_lastChange v0_time v0_position v1_kept r2 r3 r5 v6_rungs r7 v8_segments = some t0) : Met l yX6_videoRung (Cond.code yX6_videoRung cX6_videoRung 3 (some .int) :: TB) rm_X6_videoRung (PreR D cI cJ cC [(h0, .inr (6, [.ref h4, .ref h8, .ref kthis_audio, .ref h1, .ref kthis_download, .ref kthis_accounts, .ref kthis_line, .int v0_mode, .int v0_startThreshold, .int v0_lastRung, .int v0_lastChange, .int v0_state, .int v0_time, .int v0_position])), (h1, .inr (5, [.ref h2, .ref h3, .int v1_kept])), (h2, .inl (cJ, 10, .inr (.inl r2))), (h3, .inl (cJ, 10, .inr (.inl r3))), (h4, .inr (8, [.ref h5, .ref h6, .ref kthis_stream_audio, .ref kthis_stream_plan])), (h5, .inl (cI, 15, .inl r5)), (h6, .inr (2, [.ref h7, .int v6_most, .int v6_rungs])), (h7, .inl (cI, 6, .inl r7)), (h8, .inr (7, [.ref kthis_video_rungs, .int v8_segments]))] [.ref h0]) (QR (some (.int t0))) 0 0 free0 := by
  refine metR (own := RX6) (by decide) rfl (Nat.le_of_ble_eq_true rfl) ?_
  intro p e s m below meth c S hr hlk hP hK ls hl
  have hx := S.1
  have hb := S.2.1
  have hl : lv_has ls 3 [(0, .ref h0)] := hl
  refine lv_aload_n hx hb dX6_videoRung_0 rfl (lv_at hl 0 rfl) ?_
  refine gf_X6_73 (v := .int v0_lastRung) S hK hP 0 rfl rfl dX6_videoRung_1 ?_
  refine lv_if_ge (tgt := 9) hx hb dX6_videoRung_4 (by decide) (fun c1 => ?_) (fun c1 => ?_)
  · have h := iteP c1 h
    refine lv_aload_n hx hb dX6_videoRung_9 rfl (lv_at hl 0 rfl) ?_
    refine gf_X6_53 (v := .ref h4) S hK hP 0 rfl rfl dX6_videoRung_10 ?_
    refine gf_X6_266 (v := .ref h6) S hK hP 4 rfl rfl dX6_videoRung_13 ?_
    refine gf_X6_171 (v := .int v6_rungs) S hK hP 6 rfl rfl dX6_videoRung_16 ?_
    refine lv_iconst (v := 1) hx hb dX6_videoRung_19 li_1 ?_
    refine lv_isub hx hb dX6_videoRung_20 ?_
    refine lv_istore_n (lv' := [(1, .int (v6_rungs - 1)), (0, .ref h0)]) hx hb dX6_videoRung_21 rfl hl (by decide) rfl (fun ls hl => ?_)
    refine lv_aload_n hx hb dX6_videoRung_22 rfl (lv_at hl 1 rfl) ?_
    refine gf_X6_57 (v := .int v0_mode) S hK hP 0 rfl rfl dX6_videoRung_23 ?_
    refine lv_iconst (v := 1) hx hb dX6_videoRung_26 li_1 ?_
    refine lv_icmp_eq (tgt := 44) hx hb dX6_videoRung_27 (by decide) (fun c2 => ?_) (fun c2 => ?_)
    · have h := iteP c2 h
      exact k_X6_videoRung_b44 S hr hlk hK hP (v6_rungs - 1) _ h  (lv_sub hl [1, 0] rfl)
    · have h := iteN c2 h
      refine lv_aload_n hx hb dX6_videoRung_30 rfl (lv_at hl 1 rfl) ?_
      refine lv_aload_n hx hb dX6_videoRung_31 rfl (lv_at hl 1 rfl) ?_
      refine gf_X6_53 (v := .ref h4) S hK hP 0 rfl rfl dX6_videoRung_32 ?_
      refine gf_X6_266 (v := .ref h6) S hK hP 4 rfl rfl dX6_videoRung_35 ?_
      refine lv_bipush (v := 100) hx hb dX6_videoRung_38 lb_100 ?_
      refine rdV (pc1 := 43) (rest := []) (st1 := [.int (f_X6_rungByThroughput v1_kept r2 r3 r5 v6_rungs r7 100)]) S (c_X6_rungByThroughput l D cI cJ cC h0 h1 h2 h3 h4 h5 h6 h7 h8 kthis_audio kthis_download kthis_accounts kthis_line h6 kthis_stream_audio kthis_stream_plan v0_mode v0_startThreshold v0_lastRung v0_lastChange v0_state v0_time v0_position v1_kept r2 r3 r5 v6_most v6_rungs r7 100 _ rfl) (cw_X6_159 S.2.2.2.2 ⟨Nat.le_of_ble_eq_true rfl, Nat.le_of_ble_eq_true rfl⟩) hK (hP.sub [0, 1, 2, 3, 4, 5, 6, 7] rfl) rfl rfl rfl rfl hl.1 rfl (Nat.le_of_ble_eq_true rfl) ⟨Nat.zero_le _, Nat.zero_le _⟩ rfl rfl dX6_videoRung_40 ?_
      refine lv_topi (fun y3 e_y3 => ?_)
      have h := bnd_eq e_y3.symm h
      refine lv_istore_n (lv' := [(1, .int y3), (0, .ref h0)]) hx hb dX6_videoRung_43 rfl hl (by decide) rfl (fun ls hl => ?_)
      exact k_X6_videoRung_b44 S hr hlk hK hP y3 _ h  (lv_sub hl [1, 0] rfl)
  · have h := iteN c1 h
    refine lv_iconst (v := 0) hx hb dX6_videoRung_7 li_0 ?_
    have h := Option.some.inj h
    subst h
    exact rRi S hr hlk dX6_videoRung_8
