abbrev rm_X6_throughput : Room := { frames := 1, cells := 0, slots := 0, locals := 27 }
theorem dX6_throughput_0 : decode cX6_throughput 0 = .ok (.aload_n 0, 1) := by decide +kernel
theorem dX6_throughput_1 : decode cX6_throughput 1 = .ok (.getfield 24, 3) := by decide +kernel
theorem dX6_throughput_4 : decode cX6_throughput 4 = .ok (.aload_n 0, 1) := by decide +kernel
theorem dX6_throughput_5 : decode cX6_throughput 5 = .ok (.getfield 53, 3) := by decide +kernel
theorem dX6_throughput_8 : decode cX6_throughput 8 = .ok (.bipush 8, 2) := by decide +kernel
theorem dX6_throughput_10 : decode cX6_throughput 10 = .ok (.invokevirtual 176, 3) := by decide +kernel
theorem dX6_throughput_13 : decode cX6_throughput 13 = .ok (.invokevirtual 289, 3) := by decide +kernel
theorem dX6_throughput_16 : decode cX6_throughput 16 = .ok (.ireturn, 1) := by decide +kernel
def f_X6_throughput (v1_kept : Int32) (r2 r3 : Nat → Int64) (r5 : Nat → Int32) : Int32 :=
  f_X5_rateOver v1_kept r2 r3 (f_X8_valueOf r5 8)
set_option maxHeartbeats 4000000 in
set_option maxRecDepth 100000 in
theorem c_X6_throughput (l : Launch) (D : va_G) (cI cJ cC : ClassId) (h0 h1 h2 h3 h4 h5 kthis_video kthis_audio kthis_download kthis_accounts kthis_line kthis_stream_video kthis_stream_audio kthis_stream_plan : Nat) (v0_mode v0_startThreshold v0_lastRung v0_lastChange v0_state v0_time v0_position v1_kept : Int32) (r2 r3 : Nat → Int64) (r5 : Nat → Int32)  (t0 : Int32) (h : f_X6_throughput v1_kept r2 r3 r5 = t0) : Met l yX6_throughput (Cond.code yX6_throughput cX6_throughput 1 (some .int) :: TB) rm_X6_throughput (PreR D cI cJ cC [(h0, .inr (6, [.ref h4, .ref kthis_video, .ref kthis_audio, .ref h1, .ref kthis_download, .ref kthis_accounts, .ref kthis_line, .int v0_mode, .int v0_startThreshold, .int v0_lastRung, .int v0_lastChange, .int v0_state, .int v0_time, .int v0_position])), (h1, .inr (5, [.ref h2, .ref h3, .int v1_kept])), (h2, .inl (cJ, 10, .inr (.inl r2))), (h3, .inl (cJ, 10, .inr (.inl r3))), (h4, .inr (8, [.ref h5, .ref kthis_stream_video, .ref kthis_stream_audio, .ref kthis_stream_plan])), (h5, .inl (cI, 15, .inl r5))] [.ref h0]) (QR (some (.int t0))) 0 0 free0 := by
  refine metR (own := RX6) (by decide) rfl (Nat.le_of_ble_eq_true rfl) ?_
  intro p e s m below meth c S hr hlk hP hK ls hl
  have hx := S.1
  have hb := S.2.1
  have hl : lv_has ls 1 [(0, .ref h0)] := hl
  refine lv_aload_n hx hb dX6_throughput_0 rfl (lv_at hl 0 rfl) ?_
  refine gf_X6_24 (v := .ref h1) S hK hP 0 rfl rfl dX6_throughput_1 ?_
  refine lv_aload_n hx hb dX6_throughput_4 rfl (lv_at hl 0 rfl) ?_
  refine gf_X6_53 (v := .ref h4) S hK hP 0 rfl rfl dX6_throughput_5 ?_
  refine lv_bipush (v := 8) hx hb dX6_throughput_8 lb_8 ?_
  refine rdV (pc1 := 13) (rest := [.ref h1]) (st1 := [.int (f_X8_valueOf r5 8), .ref h1]) S (c_X8_valueOf l D cI cJ cC h4 h5 kthis_stream_video kthis_stream_audio kthis_stream_plan r5 8 _ rfl) (cw_X6_176 S.2.2.2.2 ⟨Nat.le_of_ble_eq_true rfl, Nat.le_of_ble_eq_true rfl⟩) hK (hP.sub [4, 5] rfl) rfl rfl rfl rfl hl.1 rfl (Nat.le_of_ble_eq_true rfl) ⟨Nat.zero_le _, Nat.zero_le _⟩ rfl rfl dX6_throughput_10 ?_
  refine rdV (pc1 := 16) (rest := []) (st1 := [.int (f_X5_rateOver v1_kept r2 r3 (f_X8_valueOf r5 8))]) S (c_X5_rateOver l D cI cJ cC h1 h2 h3 v1_kept r2 r3 (f_X8_valueOf r5 8) _ rfl) (cw_X6_289 S.2.2.2.2 ⟨Nat.le_of_ble_eq_true rfl, Nat.le_of_ble_eq_true rfl⟩) hK (hP.sub [1, 2, 3] rfl) rfl rfl rfl rfl hl.1 rfl (Nat.le_of_ble_eq_true rfl) ⟨Nat.zero_le _, Nat.zero_le _⟩ rfl rfl dX6_throughput_13 ?_
  subst h
  exact rRi S hr hlk dX6_throughput_16
abbrev rm_X6_points : Room := { frames := 2, cells := 0, slots := 0, locals := 41 }
theorem dX6_points_0 : decode cX6_points 0 = .ok (.ldc2_w 295, 3) := by decide +kernel
theorem dX6_points_3 : decode cX6_points 3 = .ok (.aload_n 0, 1) := by decide +kernel
theorem dX6_points_4 : decode cX6_points 4 = .ok (.getfield 53, 3) := by decide +kernel
theorem dX6_points_7 : decode cX6_points 7 = .ok (.getfield 266, 3) := by decide +kernel
theorem dX6_points_10 : decode cX6_points 10 = .ok (.invokevirtual 297, 3) := by decide +kernel
theorem dX6_points_13 : decode cX6_points 13 = .ok (.i2l, 1) := by decide +kernel
theorem dX6_points_14 : decode cX6_points 14 = .ok (.lmul, 1) := by decide +kernel
theorem dX6_points_15 : decode cX6_points 15 = .ok (.aload_n 0, 1) := by decide +kernel
theorem dX6_points_16 : decode cX6_points 16 = .ok (.getfield 38, 3) := by decide +kernel
theorem dX6_points_19 : decode cX6_points 19 = .ok (.iconst 1, 1) := by decide +kernel
theorem dX6_points_20 : decode cX6_points 20 = .ok (.invokevirtual 300, 3) := by decide +kernel
theorem dX6_points_23 : decode cX6_points 23 = .ok (.i2l, 1) := by decide +kernel
theorem dX6_points_24 : decode cX6_points 24 = .ok (.lmul, 1) := by decide +kernel
theorem dX6_points_25 : decode cX6_points 25 = .ok (.lstore_n 1, 1) := by decide +kernel
theorem dX6_points_26 : decode cX6_points 26 = .ok (.aload_n 0, 1) := by decide +kernel
theorem dX6_points_27 : decode cX6_points 27 = .ok (.getfield 38, 3) := by decide +kernel
theorem dX6_points_30 : decode cX6_points 30 = .ok (.getfield 263, 3) := by decide +kernel
theorem dX6_points_33 : decode cX6_points 33 = .ok (.lload_n 1, 1) := by decide +kernel
theorem dX6_points_34 : decode cX6_points 34 = .ok (.lsub, 1) := by decide +kernel
theorem dX6_points_35 : decode cX6_points 35 = .ok (.lreturn, 1) := by decide +kernel
theorem cw_X6_297 {R : Room} {s : State} {args : Array Value} (hts : ∀ w ∈ TB, w.before args s = true) (hR : rm_X2_topRate.frames + 1 ≤ R.frames ∧ 8 + (1 + 11) + rm_X2_topRate.locals ≤ R.locals) : CallW R s args RX6 RX2 297 yX2_topRate cX2_topRate 1 (some .int) (Cond.code yX2_topRate cX2_topRate 1 (some .int) :: TB) rm_X2_topRate 0 0 0 := cwV 0 hts (gV tb444 tb445 tb446 tb23 tb447) rfl rfl rfl ⟨rfl, by decide, by decide, by decide +kernel⟩ hR
theorem cw_X6_300 {R : Room} {s : State} {args : Array Value} (hts : ∀ w ∈ TB, w.before args s = true) (hR : rm_X0_timeSpent.frames + 1 ≤ R.frames ∧ 8 + (2 + 11) + rm_X0_timeSpent.locals ≤ R.locals) : CallW R s args RX6 RX0 300 yX0_timeSpent cX0_timeSpent 2 (some .int) (Cond.code yX0_timeSpent cX0_timeSpent 2 (some .int) :: TB) rm_X0_timeSpent 0 0 1 := cwV 1 hts (gV tb452 tb432 tb433 tb29 tb434) rfl rfl rfl ⟨rfl, by decide, by decide, by decide +kernel⟩ hR
def f_X6_points (v1_startUpTime v1_stallTime v1_playTime : Int32) (v1_quality : Int64) (v3_rungs : Int32) (r4 : Nat → Int32) : Int64 :=
  bnd ((2 * ((f_X2_topRate v3_rungs r4).toInt64)) * ((f_X0_timeSpent v1_startUpTime v1_stallTime v1_playTime 1).toInt64)) fun (z1 : Int64) =>
  v1_quality - z1
set_option maxHeartbeats 4000000 in
set_option maxRecDepth 100000 in
theorem c_X6_points (l : Launch) (D : va_G) (cI cJ cC : ClassId) (h0 h1 h2 h3 h4 kthis_video kthis_audio kthis_samples kthis_download kthis_line kthis_stream_values kthis_stream_audio kthis_stream_plan : Nat) (v0_mode v0_startThreshold v0_lastRung v0_lastChange v0_state v0_time v0_position v1_startUpTime v1_stallTime v1_playTime v1_stalls v1_abandoned v1_finished v1_switches : Int32) (v1_wasted v1_quality : Int64) (v3_most v3_rungs : Int32) (r4 : Nat → Int32)  (t0 : Int64) (h : f_X6_points v1_startUpTime v1_stallTime v1_playTime v1_quality v3_rungs r4 = t0) : Met l yX6_points (Cond.code yX6_points cX6_points 3 (some .long) :: TB) rm_X6_points (PreR D cI cJ cC [(h0, .inr (6, [.ref h2, .ref kthis_video, .ref kthis_audio, .ref kthis_samples, .ref kthis_download, .ref h1, .ref kthis_line, .int v0_mode, .int v0_startThreshold, .int v0_lastRung, .int v0_lastChange, .int v0_state, .int v0_time, .int v0_position])), (h1, .inr (0, [.int v1_startUpTime, .int v1_stallTime, .int v1_playTime, .int v1_stalls, .int v1_abandoned, .int v1_finished, .int v1_switches, .long v1_wasted, .long v1_quality])), (h2, .inr (8, [.ref kthis_stream_values, .ref h3, .ref kthis_stream_audio, .ref kthis_stream_plan])), (h3, .inr (2, [.ref h4, .int v3_most, .int v3_rungs])), (h4, .inl (cI, 6, .inl r4))] [.ref h0]) (QR (some (.long t0))) 0 0 free0 := by
  refine metR (own := RX6) (by decide) rfl (Nat.le_of_ble_eq_true rfl) ?_
  intro p e s m below meth c S hr hlk hP hK ls hl
  have hx := S.1
  have hb := S.2.1
  have hl : lv_has ls 3 [(0, .ref h0)] := hl
  refine lv_ldc2 (v := 2) hx hb S.2.2.2.1 (S.2.2.2.2 _ tb443) dX6_points_0 ?_
  refine lv_aload_n hx hb dX6_points_3 rfl (lv_at hl 0 rfl) ?_
  refine gf_X6_53 (v := .ref h2) S hK hP 0 rfl rfl dX6_points_4 ?_
  refine gf_X6_266 (v := .ref h3) S hK hP 2 rfl rfl dX6_points_7 ?_
  refine rdV (pc1 := 13) (rest := [.long 2]) (st1 := [.int (f_X2_topRate v3_rungs r4), .long 2]) S (c_X2_topRate l D cI cJ cC h3 h4 v3_most v3_rungs r4  _ rfl) (cw_X6_297 S.2.2.2.2 ⟨Nat.le_of_ble_eq_true rfl, Nat.le_of_ble_eq_true rfl⟩) hK (hP.sub [3, 4] rfl) rfl rfl rfl rfl hl.1 rfl (Nat.le_of_ble_eq_true rfl) ⟨Nat.zero_le _, Nat.zero_le _⟩ rfl rfl dX6_points_10 ?_
  refine lv_i2l hx hb dX6_points_13 rfl ?_
  refine lv_lmul hx hb dX6_points_14 ?_
  refine lv_aload_n hx hb dX6_points_15 rfl (lv_at hl 0 rfl) ?_
  refine gf_X6_38 (v := .ref h1) S hK hP 0 rfl rfl dX6_points_16 ?_
  refine lv_iconst (v := 1) hx hb dX6_points_19 li_1 ?_
  refine rdV (pc1 := 23) (rest := [.long (2 * ((f_X2_topRate v3_rungs r4).toInt64))]) (st1 := [.int (f_X0_timeSpent v1_startUpTime v1_stallTime v1_playTime 1), .long (2 * ((f_X2_topRate v3_rungs r4).toInt64))]) S (c_X0_timeSpent l D cI cJ cC h1 v1_startUpTime v1_stallTime v1_playTime v1_stalls v1_abandoned v1_finished v1_switches v1_wasted v1_quality 1 _ rfl) (cw_X6_300 S.2.2.2.2 ⟨Nat.le_of_ble_eq_true rfl, Nat.le_of_ble_eq_true rfl⟩) hK (hP.sub [1] rfl) rfl rfl rfl rfl hl.1 rfl (Nat.le_of_ble_eq_true rfl) ⟨Nat.zero_le _, Nat.zero_le _⟩ rfl rfl dX6_points_20 ?_
  refine lv_i2l hx hb dX6_points_23 rfl ?_
  refine lv_lmul hx hb dX6_points_24 ?_
  refine lv_topl (fun z1 e_z1 => ?_)
  have h := bnd_eq e_z1.symm h
  refine lv_lstore_n (lv' := [(1, .long z1), (0, .ref h0)]) hx hb dX6_points_25 rfl hl (by decide) rfl (fun ls hl => ?_)
  refine lv_aload_n hx hb dX6_points_26 rfl (lv_at hl 1 rfl) ?_
  refine gf_X6_38 (v := .ref h1) S hK hP 0 rfl rfl dX6_points_27 ?_
  refine gf_X6_263 (v := .long v1_quality) S hK hP 1 rfl rfl dX6_points_30 ?_
  refine lv_lload_n hx hb dX6_points_33 rfl (lv_at hl 0 rfl) ?_
  refine lv_lsub hx hb dX6_points_34 ?_
  subst h
  exact rRl S hr hlk dX6_points_35
