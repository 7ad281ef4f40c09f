abbrev rm_X9_clear : Room := { frames := 8, cells := 1, slots := 6, locals := 130 }
theorem dX9_clear_0 : decode cX9_clear 0 = .ok (.aload_n 0, 1) := by decide +kernel
theorem dX9_clear_1 : decode cX9_clear 1 = .ok (.invokevirtual 44, 3) := by decide +kernel
theorem dX9_clear_4 : decode cX9_clear 4 = .ok (.aload_n 0, 1) := by decide +kernel
theorem dX9_clear_5 : decode cX9_clear 5 = .ok (.getfield 10, 3) := by decide +kernel
theorem dX9_clear_8 : decode cX9_clear 8 = .ok (.getfield 74, 3) := by decide +kernel
theorem dX9_clear_11 : decode cX9_clear 11 = .ok (.getfield 84, 3) := by decide +kernel
theorem dX9_clear_14 : decode cX9_clear 14 = .ok (.istore_n 1, 1) := by decide +kernel
theorem dX9_clear_15 : decode cX9_clear 15 = .ok (.aload_n 0, 1) := by decide +kernel
theorem dX9_clear_16 : decode cX9_clear 16 = .ok (.getfield 10, 3) := by decide +kernel
theorem dX9_clear_19 : decode cX9_clear 19 = .ok (.invokevirtual 88, 3) := by decide +kernel
theorem dX9_clear_22 : decode cX9_clear 22 = .ok (.iload_n 1, 1) := by decide +kernel
theorem dX9_clear_23 : decode cX9_clear 23 = .ok (.ireturn, 1) := by decide +kernel
theorem gf_X9_84 {p : Program} {l : Launch} {e : Env} {R : Room} {s : State} {m : MethodId} {args : Array Value} {below : List Frame} {meth : Method} {c : Code} {H : Heap} {locs : List Loc} {cells slots : Nat} {Q : State → Prop} {cc : ByteArray} {pc nL : Nat} {ls : Array Slot} {rest : List Value} {D : va_G} {ws : va_W} {tys : List (ClassId × FieldType)} (S : CallFix p m c cc nL s args TB RX9) (hK : va_K D vwCl tys s) (hP : va_P D vwCl ws H) (q0 : Nat) {a : Nat} {fs : List Value} (he : ws[q0]? = some (a, .inr (4, fs))) {v : Value} (hv : fs[3]? = some v) (hdg : decode cc pc = .ok (.getfield 84, 3))
    (kk : W p l e R s m args below meth c H locs cells slots Q (F0 m (pc + 3) ls (v :: rest))) : W p l e R s m args below meth c H locs cells slots Q (F0 m pc ls (.ref a :: rest)) :=
  va_get (D := D) (ci := 4) (C := RX4) (T := TX4) (N := 4) S.1 S.2.1 S.2.2.2.2 iwX4 S.2.2.2.1 hK hP q0 he rfl 3 (by decide) (S.2.2.2.2 _ tb114) (fun _ h9 => h9) hv hdg kk
theorem cw_X9_88 {R : Room} {s : State} {args : Array Value} (hts : ∀ w ∈ TB, w.before args s = true) (hR : rm_X8_empty.frames + 1 ≤ R.frames ∧ 8 + (1 + 11) + rm_X8_empty.locals ≤ R.locals) : CallW R s args RX9 RX8 88 yX8_empty cX8_empty 1 none (Cond.code yX8_empty cX8_empty 1 none :: TB) rm_X8_empty 0 0 0 := cwV 0 hts (gV tb548 tb549 tb550 tb48 tb551) rfl rfl rfl ⟨rfl, by decide, by decide, by decide +kernel⟩ hR
def f_X9_clear (v1_state v3_rungs v4_total v4_phases v5_rungs : Int32) : Nat × Int32 × Int32 × Int32 × Int32 × Int32 :=
  bnd (f_X9_requireNoSession v1_state) fun (k1 : Nat) =>
  if k1 = 0 then
    bnd4 (f_X8_empty) fun (y3 : Int32) (y4 : Int32) (y5 : Int32) (y6 : Int32) =>
    (0, v4_phases, y3, y4, y5, y6)
  else
    (k1, 0, v3_rungs, v4_total, v4_phases, v5_rungs)
set_option maxHeartbeats 4000000 in
set_option maxRecDepth 100000 in
theorem c_X9_clear (l : Launch) (hfl : l.stackTraces = false) (ga : Nat → Nat) (D : va_G) (cI cJ cC : ClassId) (h0 h1 h2 h3 h4 h5 kthis_scratch kthis_session_video kthis_session_audio kthis_session_samples kthis_session_download kthis_session_accounts kthis_session_line kthis_stream_values kthis_stream_audio_rates kthis_stream_plan_lengths kthis_stream_plan_rates kthis_stream_video_rates : Nat) (v1_mode v1_startThreshold v1_lastRung v1_lastChange v1_state v1_time v1_position v3_most v3_rungs v4_total v4_phases v5_most v5_rungs : Int32) (sz : Nat)  (T : Nat × Int32 × Int32 × Int32 × Int32 × Int32) (h : f_X9_clear v1_state v3_rungs v4_total v4_phases v5_rungs = T) : vx_Met l yX9_clear (Cond.code yX9_clear cX9_clear 2 (some .int) :: TB) rm_X9_clear (PreX ga D cI cJ cC [(h0, .inr (9, [.ref h2, .ref h1, .ref kthis_scratch])), (h1, .inr (6, [.ref h2, .ref kthis_session_video, .ref kthis_session_audio, .ref kthis_session_samples, .ref kthis_session_download, .ref kthis_session_accounts, .ref kthis_session_line, .int v1_mode, .int v1_startThreshold, .int v1_lastRung, .int v1_lastChange, .int v1_state, .int v1_time, .int v1_position])), (h2, .inr (8, [.ref kthis_stream_values, .ref h5, .ref h3, .ref h4])), (h3, .inr (2, [.ref kthis_stream_audio_rates, .int v3_most, .int v3_rungs])), (h4, .inr (4, [.ref kthis_stream_plan_lengths, .ref kthis_stream_plan_rates, .int v4_total, .int v4_phases])), (h5, .inr (2, [.ref kthis_stream_video_rates, .int v5_most, .int v5_rungs]))] sz [.ref h0]) (QX T.1 (some (.int T.2.1)) D [(h0, .inr (9, [.ref h2, .ref h1, .ref kthis_scratch])), (h1, .inr (6, [.ref h2, .ref kthis_session_video, .ref kthis_session_audio, .ref kthis_session_samples, .ref kthis_session_download, .ref kthis_session_accounts, .ref kthis_session_line, .int v1_mode, .int v1_startThreshold, .int v1_lastRung, .int v1_lastChange, .int v1_state, .int v1_time, .int v1_position])), (h2, .inr (8, [.ref kthis_stream_values, .ref h5, .ref h3, .ref h4])), (h3, .inr (2, [.ref kthis_stream_audio_rates, .int v3_most, .int T.2.2.1])), (h4, .inr (4, [.ref kthis_stream_plan_lengths, .ref kthis_stream_plan_rates, .int T.2.2.2.1, .int T.2.2.2.2.1])), (h5, .inr (2, [.ref kthis_stream_video_rates, .int v5_most, .int T.2.2.2.2.2]))] (va_A [(h0, .inr (9, [.ref h2, .ref h1, .ref kthis_scratch])), (h1, .inr (6, [.ref h2, .ref kthis_session_video, .ref kthis_session_audio, .ref kthis_session_samples, .ref kthis_session_download, .ref kthis_session_accounts, .ref kthis_session_line, .int v1_mode, .int v1_startThreshold, .int v1_lastRung, .int v1_lastChange, .int v1_state, .int v1_time, .int v1_position])), (h2, .inr (8, [.ref kthis_stream_values, .ref h5, .ref h3, .ref h4])), (h3, .inr (2, [.ref kthis_stream_audio_rates, .int v3_most, .int v3_rungs])), (h4, .inr (4, [.ref kthis_stream_plan_lengths, .ref kthis_stream_plan_rates, .int v4_total, .int v4_phases])), (h5, .inr (2, [.ref kthis_stream_video_rates, .int v5_most, .int v5_rungs]))] sz)) (XX T.1 D [(h0, .inr (9, [.ref h2, .ref h1, .ref kthis_scratch])), (h1, .inr (6, [.ref h2, .ref kthis_session_video, .ref kthis_session_audio, .ref kthis_session_samples, .ref kthis_session_download, .ref kthis_session_accounts, .ref kthis_session_line, .int v1_mode, .int v1_startThreshold, .int v1_lastRung, .int v1_lastChange, .int v1_state, .int v1_time, .int v1_position])), (h2, .inr (8, [.ref kthis_stream_values, .ref h5, .ref h3, .ref h4])), (h3, .inr (2, [.ref kthis_stream_audio_rates, .int v3_most, .int T.2.2.1])), (h4, .inr (4, [.ref kthis_stream_plan_lengths, .ref kthis_stream_plan_rates, .int T.2.2.2.1, .int T.2.2.2.2.1])), (h5, .inr (2, [.ref kthis_stream_video_rates, .int v5_most, .int T.2.2.2.2.2]))] (va_A [(h0, .inr (9, [.ref h2, .ref h1, .ref kthis_scratch])), (h1, .inr (6, [.ref h2, .ref kthis_session_video, .ref kthis_session_audio, .ref kthis_session_samples, .ref kthis_session_download, .ref kthis_session_accounts, .ref kthis_session_line, .int v1_mode, .int v1_startThreshold, .int v1_lastRung, .int v1_lastChange, .int v1_state, .int v1_time, .int v1_position])), (h2, .inr (8, [.ref kthis_stream_values, .ref h5, .ref h3, .ref h4])), (h3, .inr (2, [.ref kthis_stream_audio_rates, .int v3_most, .int v3_rungs])), (h4, .inr (4, [.ref kthis_stream_plan_lengths, .ref kthis_stream_plan_rates, .int v4_total, .int v4_phases])), (h5, .inr (2, [.ref kthis_stream_video_rates, .int v5_most, .int v5_rungs]))] sz)) 1 6 (va_A [(h0, .inr (9, [.ref h2, .ref h1, .ref kthis_scratch])), (h1, .inr (6, [.ref h2, .ref kthis_session_video, .ref kthis_session_audio, .ref kthis_session_samples, .ref kthis_session_download, .ref kthis_session_accounts, .ref kthis_session_line, .int v1_mode, .int v1_startThreshold, .int v1_lastRung, .int v1_lastChange, .int v1_state, .int v1_time, .int v1_position])), (h2, .inr (8, [.ref kthis_stream_values, .ref h5, .ref h3, .ref h4])), (h3, .inr (2, [.ref kthis_stream_audio_rates, .int v3_most, .int v3_rungs])), (h4, .inr (4, [.ref kthis_stream_plan_lengths, .ref kthis_stream_plan_rates, .int v4_total, .int v4_phases])), (h5, .inr (2, [.ref kthis_stream_video_rates, .int v5_most, .int v5_rungs]))] sz) := by
  refine metX (own := RX9) (by decide) rfl (Nat.le_of_ble_eq_true rfl) ?_
  intro p e s m below meth c S hr hlk hnt hP hK A hAe hD hA hS hG ls hl
  clear hAe
  have hx := S.1
  have hb := S.2.1
  have hl : lv_has ls 2 [(0, .ref h0)] := hl
  refine lv_aload_n hx hb dX9_clear_0 rfl (lv_at hl 0 rfl) ?_
  obtain ⟨k1, e_k1⟩ : ∃ a0, f_X9_requireNoSession v1_state = a0 := ⟨_, rfl⟩
  have h := bnd_eq e_k1 h
  refine xcV (pc1 := 4) (rest := []) (st1 := []) (wr := [(h2, .inr (8, [.ref kthis_stream_values, .ref h5, .ref h3, .ref h4])), (h3, .inr (2, [.ref kthis_stream_audio_rates, .int v3_most, .int v3_rungs])), (h4, .inr (4, [.ref kthis_stream_plan_lengths, .ref kthis_stream_plan_rates, .int v4_total, .int v4_phases])), (h5, .inr (2, [.ref kthis_stream_video_rates, .int v5_most, .int v5_rungs]))]) (cells1 := 1) (slots1 := 6) S (c_X9_requireNoSession l hfl ga D cI cJ cC h0 h1 h2 kthis_scratch kthis_session_video kthis_session_audio kthis_session_samples kthis_session_download kthis_session_accounts kthis_session_line v1_mode v1_startThreshold v1_lastRung v1_lastChange v1_state v1_time v1_position s.heap.size  k1 e_k1) (cw_X9_44 S.2.2.2.2 ⟨Nat.le_of_ble_eq_true rfl, Nat.le_of_ble_eq_true rfl⟩) hK hP hD hS hA hG [0, 1] [2, 3, 4, 5] rfl rfl rfl (by decide) (by decide) (by decide) rfl rfl rfl rfl hl.1 rfl (Nat.le_of_ble_eq_true rfl) ⟨Nat.le_of_ble_eq_true rfl, Nat.le_of_ble_eq_true rfl⟩ rfl rfl rfl rfl dX9_clear_1 (fun c2 H locs ce q9 hP hD hS hce hcv hcl => ?_) (fun c2 H locs hP hD hS => ?_)
  · have h := iteN c2 h
    have hP : va_P D vwCl [(h2, .inr (8, [.ref kthis_stream_values, .ref h5, .ref h3, .ref h4])), (h3, .inr (2, [.ref kthis_stream_audio_rates, .int v3_most, .int v3_rungs])), (h4, .inr (4, [.ref kthis_stream_plan_lengths, .ref kthis_stream_plan_rates, .int v4_total, .int v4_phases])), (h5, .inr (2, [.ref kthis_stream_video_rates, .int v5_most, .int v5_rungs])), (h0, .inr (9, [.ref h2, .ref h1, .ref kthis_scratch])), (h1, .inr (6, [.ref h2, .ref kthis_session_video, .ref kthis_session_audio, .ref kthis_session_samples, .ref kthis_session_download, .ref kthis_session_accounts, .ref kthis_session_line, .int v1_mode, .int v1_startThreshold, .int v1_lastRung, .int v1_lastChange, .int v1_state, .int v1_time, .int v1_position]))] H := hP
    have hD : va_D A [(h2, .inr (8, [.ref kthis_stream_values, .ref h5, .ref h3, .ref h4])), (h3, .inr (2, [.ref kthis_stream_audio_rates, .int v3_most, .int v3_rungs])), (h4, .inr (4, [.ref kthis_stream_plan_lengths, .ref kthis_stream_plan_rates, .int v4_total, .int v4_phases])), (h5, .inr (2, [.ref kthis_stream_video_rates, .int v5_most, .int v5_rungs])), (h0, .inr (9, [.ref h2, .ref h1, .ref kthis_scratch])), (h1, .inr (6, [.ref h2, .ref kthis_session_video, .ref kthis_session_audio, .ref kthis_session_samples, .ref kthis_session_download, .ref kthis_session_accounts, .ref kthis_session_line, .int v1_mode, .int v1_startThreshold, .int v1_lastRung, .int v1_lastChange, .int v1_state, .int v1_time, .int v1_position]))] := hD
    subst h
    exact xout hnt hlk c2 (hP.sub [4, 5, 0, 1, 2, 3] rfl) (hD.sub [4, 5, 0, 1, 2, 3] (by decide) rfl) hS hce hcv hcl (Nat.le_of_ble_eq_true rfl) (Nat.le_of_ble_eq_true rfl)
  · have h := iteP c2 h
    have hP : va_P D vwCl [(h2, .inr (8, [.ref kthis_stream_values, .ref h5, .ref h3, .ref h4])), (h3, .inr (2, [.ref kthis_stream_audio_rates, .int v3_most, .int v3_rungs])), (h4, .inr (4, [.ref kthis_stream_plan_lengths, .ref kthis_stream_plan_rates, .int v4_total, .int v4_phases])), (h5, .inr (2, [.ref kthis_stream_video_rates, .int v5_most, .int v5_rungs])), (h0, .inr (9, [.ref h2, .ref h1, .ref kthis_scratch])), (h1, .inr (6, [.ref h2, .ref kthis_session_video, .ref kthis_session_audio, .ref kthis_session_samples, .ref kthis_session_download, .ref kthis_session_accounts, .ref kthis_session_line, .int v1_mode, .int v1_startThreshold, .int v1_lastRung, .int v1_lastChange, .int v1_state, .int v1_time, .int v1_position]))] H := hP
    have hD : va_D A [(h2, .inr (8, [.ref kthis_stream_values, .ref h5, .ref h3, .ref h4])), (h3, .inr (2, [.ref kthis_stream_audio_rates, .int v3_most, .int v3_rungs])), (h4, .inr (4, [.ref kthis_stream_plan_lengths, .ref kthis_stream_plan_rates, .int v4_total, .int v4_phases])), (h5, .inr (2, [.ref kthis_stream_video_rates, .int v5_most, .int v5_rungs])), (h0, .inr (9, [.ref h2, .ref h1, .ref kthis_scratch])), (h1, .inr (6, [.ref h2, .ref kthis_session_video, .ref kthis_session_audio, .ref kthis_session_samples, .ref kthis_session_download, .ref kthis_session_accounts, .ref kthis_session_line, .int v1_mode, .int v1_startThreshold, .int v1_lastRung, .int v1_lastChange, .int v1_state, .int v1_time, .int v1_position]))] := hD
    refine lv_aload_n hx hb dX9_clear_4 rfl (lv_at hl 0 rfl) ?_
    refine gf_X9_10 (v := .ref h2) S hK hP 4 rfl rfl dX9_clear_5 ?_
    refine gf_X9_74 (v := .ref h4) S hK hP 0 rfl rfl dX9_clear_8 ?_
    refine gf_X9_84 (v := .int v4_phases) S hK hP 2 rfl rfl dX9_clear_11 ?_
    refine lv_istore_n (lv' := [(1, .int v4_phases), (0, .ref h0)]) hx hb dX9_clear_14 rfl hl (by decide) rfl (fun ls hl => ?_)
    refine lv_aload_n hx hb dX9_clear_15 rfl (lv_at hl 1 rfl) ?_
    refine gf_X9_10 (v := .ref h2) S hK hP 4 rfl rfl dX9_clear_16 ?_
    obtain ⟨y3, y4, y5, y6, e_y3⟩ : ∃ a0 a1 a2 a3, f_X8_empty = (a0, a1, a2, a3) := ⟨_, _, _, _, rfl⟩
    have h := bnd4_eq e_y3 h
    refine wrV (pc1 := 22) (rest := []) (st1 := []) (wr := [(h0, .inr (9, [.ref h2, .ref h1, .ref kthis_scratch])), (h1, .inr (6, [.ref h2, .ref kthis_session_video, .ref kthis_session_audio, .ref kthis_session_samples, .ref kthis_session_download, .ref kthis_session_accounts, .ref kthis_session_line, .int v1_mode, .int v1_startThreshold, .int v1_lastRung, .int v1_lastChange, .int v1_state, .int v1_time, .int v1_position]))]) S (c_X8_empty l D cI cJ cC h2 h3 h4 h5 kthis_stream_values kthis_stream_audio_rates kthis_stream_plan_lengths kthis_stream_plan_rates kthis_stream_video_rates v3_most v3_rungs v4_total v4_phases v5_most v5_rungs H.size  (y3, y4, y5, y6) e_y3) (cw_X9_88 S.2.2.2.2 ⟨Nat.le_of_ble_eq_true rfl, Nat.le_of_ble_eq_true rfl⟩) hK hP hD hS hA [0, 1, 2, 3] [4, 5] rfl rfl rfl (by decide) (by decide) (by decide) rfl rfl rfl rfl hl.1 rfl (Nat.le_of_ble_eq_true rfl) ⟨Nat.le_of_ble_eq_true rfl, Nat.le_of_ble_eq_true rfl⟩ rfl rfl dX9_clear_19 (fun H locs hP hD hS => ?_)
    have hP : va_P D vwCl [(h0, .inr (9, [.ref h2, .ref h1, .ref kthis_scratch])), (h1, .inr (6, [.ref h2, .ref kthis_session_video, .ref kthis_session_audio, .ref kthis_session_samples, .ref kthis_session_download, .ref kthis_session_accounts, .ref kthis_session_line, .int v1_mode, .int v1_startThreshold, .int v1_lastRung, .int v1_lastChange, .int v1_state, .int v1_time, .int v1_position])), (h2, .inr (8, [.ref kthis_stream_values, .ref h5, .ref h3, .ref h4])), (h3, .inr (2, [.ref kthis_stream_audio_rates, .int v3_most, .int y3])), (h4, .inr (4, [.ref kthis_stream_plan_lengths, .ref kthis_stream_plan_rates, .int y4, .int y5])), (h5, .inr (2, [.ref kthis_stream_video_rates, .int v5_most, .int y6]))] H := hP
    have hD : va_D A [(h0, .inr (9, [.ref h2, .ref h1, .ref kthis_scratch])), (h1, .inr (6, [.ref h2, .ref kthis_session_video, .ref kthis_session_audio, .ref kthis_session_samples, .ref kthis_session_download, .ref kthis_session_accounts, .ref kthis_session_line, .int v1_mode, .int v1_startThreshold, .int v1_lastRung, .int v1_lastChange, .int v1_state, .int v1_time, .int v1_position])), (h2, .inr (8, [.ref kthis_stream_values, .ref h5, .ref h3, .ref h4])), (h3, .inr (2, [.ref kthis_stream_audio_rates, .int v3_most, .int y3])), (h4, .inr (4, [.ref kthis_stream_plan_lengths, .ref kthis_stream_plan_rates, .int y4, .int y5])), (h5, .inr (2, [.ref kthis_stream_video_rates, .int v5_most, .int y6]))] := hD
    refine lv_iload_n hx hb dX9_clear_22 rfl (lv_at hl 0 rfl) ?_
    subst h
    exact xRi S hr hlk (Nat.le_of_ble_eq_true rfl) (Nat.le_of_ble_eq_true rfl) (hP.sub [0, 1, 2, 3, 4, 5] rfl) (hD.sub [0, 1, 2, 3, 4, 5] (by decide) rfl) hS dX9_clear_23
abbrev rm_X9_bandwidth : Room := { frames := 8, cells := 1, slots := 6, locals := 130 }
theorem dX9_bandwidth_0 : decode cX9_bandwidth 0 = .ok (.iload_n 1, 1) := by decide +kernel
theorem dX9_bandwidth_1 : decode cX9_bandwidth 1 = .ok (.ifCond .lt 7, 3) := by decide +kernel
theorem dX9_bandwidth_4 : decode cX9_bandwidth 4 = .ok (.iconst 1, 1) := by decide +kernel
theorem dX9_bandwidth_5 : decode cX9_bandwidth 5 = .ok (.goto 4, 3) := by decide +kernel
theorem dX9_bandwidth_8 : decode cX9_bandwidth 8 = .ok (.iconst 0, 1) := by decide +kernel
theorem dX9_bandwidth_9 : decode cX9_bandwidth 9 = .ok (.invokestatic 40, 3) := by decide +kernel
theorem dX9_bandwidth_12 : decode cX9_bandwidth 12 = .ok (.aload_n 0, 1) := by decide +kernel
theorem dX9_bandwidth_13 : decode cX9_bandwidth 13 = .ok (.getfield 10, 3) := by decide +kernel
theorem dX9_bandwidth_16 : decode cX9_bandwidth 16 = .ok (.getfield 74, 3) := by decide +kernel
theorem dX9_bandwidth_19 : decode cX9_bandwidth 19 = .ok (.iload_n 1, 1) := by decide +kernel
theorem dX9_bandwidth_20 : decode cX9_bandwidth 20 = .ok (.invokevirtual 91, 3) := by decide +kernel
theorem dX9_bandwidth_23 : decode cX9_bandwidth 23 = .ok (.ireturn, 1) := by decide +kernel
theorem cw_X9_91 {R : Room} {s : State} {args : Array Value} (hts : ∀ w ∈ TB, w.before args s = true) (hR : rm_X4_rateAt.frames + 1 ≤ R.frames ∧ 8 + (4 + 11) + rm_X4_rateAt.locals ≤ R.locals) : CallW R s args RX9 RX4 91 yX4_rateAt cX4_rateAt 4 (some .int) (Cond.code yX4_rateAt cX4_rateAt 4 (some .int) :: TB) rm_X4_rateAt 0 0 1 := cwV 1 hts (gV tb563 tb564 tb565 tb50 tb566) rfl rfl rfl ⟨rfl, by decide, by decide, by decide +kernel⟩ hR
def f_X9_bandwidth (v2_total v2_phases : Int32) (r3 r4 : Nat → Int32) (p0 : Int32) : Nat × Int32 :=
  if p0 < 0 then
    bnd (f_X9_requireArgument 0) fun (k2 : Nat) =>
    if k2 = 0 then
      (0, f_X4_rateAt v2_total v2_phases r3 r4 p0)
    else
      (k2, 0)
  else
    bnd (f_X9_requireArgument 1) fun (k4 : Nat) =>
    if k4 = 0 then
      (0, f_X4_rateAt v2_total v2_phases r3 r4 p0)
    else
      (k4, 0)
set_option maxHeartbeats 4000000 in
set_option maxRecDepth 100000 in
theorem c_X9_bandwidth (l : Launch) (hfl : l.stackTraces = false) (ga : Nat → Nat) (D : va_G) (cI cJ cC : ClassId) (h0 h1 h2 h3 h4 kthis_session kthis_scratch kthis_stream_values kthis_stream_video kthis_stream_audio : Nat) (v2_total v2_phases : Int32) (r3 r4 : Nat → Int32) (sz : Nat) (p0 : Int32) (T : Nat × Int32) (h : f_X9_bandwidth v2_total v2_phases r3 r4 p0 = T) : vx_Met l yX9_bandwidth (Cond.code yX9_bandwidth cX9_bandwidth 2 (some .int) :: TB) rm_X9_bandwidth (PreX ga D cI cJ cC [(h0, .inr (9, [.ref h1, .ref kthis_session, .ref kthis_scratch])), (h1, .inr (8, [.ref kthis_stream_values, .ref kthis_stream_video, .ref kthis_stream_audio, .ref h2])), (h2, .inr (4, [.ref h3, .ref h4, .int v2_total, .int v2_phases])), (h3, .inl (cI, 20, .inl r3)), (h4, .inl (cI, 20, .inl r4))] sz [.ref h0, .int p0]) (QX T.1 (some (.int T.2)) D [(h0, .inr (9, [.ref h1, .ref kthis_session, .ref kthis_scratch])), (h1, .inr (8, [.ref kthis_stream_values, .ref kthis_stream_video, .ref kthis_stream_audio, .ref h2])), (h2, .inr (4, [.ref h3, .ref h4, .int v2_total, .int v2_phases])), (h3, .inl (cI, 20, .inl r3)), (h4, .inl (cI, 20, .inl r4))] (va_A [(h0, .inr (9, [.ref h1, .ref kthis_session, .ref kthis_scratch])), (h1, .inr (8, [.ref kthis_stream_values, .ref kthis_stream_video, .ref kthis_stream_audio, .ref h2])), (h2, .inr (4, [.ref h3, .ref h4, .int v2_total, .int v2_phases])), (h3, .inl (cI, 20, .inl r3)), (h4, .inl (cI, 20, .inl r4))] sz)) (XX T.1 D [(h0, .inr (9, [.ref h1, .ref kthis_session, .ref kthis_scratch])), (h1, .inr (8, [.ref kthis_stream_values, .ref kthis_stream_video, .ref kthis_stream_audio, .ref h2])), (h2, .inr (4, [.ref h3, .ref h4, .int v2_total, .int v2_phases])), (h3, .inl (cI, 20, .inl r3)), (h4, .inl (cI, 20, .inl r4))] (va_A [(h0, .inr (9, [.ref h1, .ref kthis_session, .ref kthis_scratch])), (h1, .inr (8, [.ref kthis_stream_values, .ref kthis_stream_video, .ref kthis_stream_audio, .ref h2])), (h2, .inr (4, [.ref h3, .ref h4, .int v2_total, .int v2_phases])), (h3, .inl (cI, 20, .inl r3)), (h4, .inl (cI, 20, .inl r4))] sz)) 1 6 (va_A [(h0, .inr (9, [.ref h1, .ref kthis_session, .ref kthis_scratch])), (h1, .inr (8, [.ref kthis_stream_values, .ref kthis_stream_video, .ref kthis_stream_audio, .ref h2])), (h2, .inr (4, [.ref h3, .ref h4, .int v2_total, .int v2_phases])), (h3, .inl (cI, 20, .inl r3)), (h4, .inl (cI, 20, .inl r4))] sz) := by
  refine metX (own := RX9) (by decide) rfl (Nat.le_of_ble_eq_true rfl) ?_
  intro p e s m below meth c S hr hlk hnt hP hK A hAe hD hA hS hG ls hl
  clear hAe
  have hx := S.1
  have hb := S.2.1
  have hl : lv_has ls 2 [(0, .ref h0), (1, .int p0)] := hl
  refine lv_iload_n hx hb dX9_bandwidth_0 rfl (lv_at hl 1 rfl) ?_
  refine lv_if_lt (tgt := 8) hx hb dX9_bandwidth_1 (by decide) (fun c1 => ?_) (fun c1 => ?_)
  · have h := iteP c1 h
    refine lv_iconst (v := 0) hx hb dX9_bandwidth_8 li_0 ?_
    obtain ⟨k2, e_k2⟩ : ∃ a0, f_X9_requireArgument 0 = a0 := ⟨_, rfl⟩
    have h := bnd_eq e_k2 h
    refine xcS (pc1 := 12) (rest := []) (st1 := []) (wr := [(h0, .inr (9, [.ref h1, .ref kthis_session, .ref kthis_scratch])), (h1, .inr (8, [.ref kthis_stream_values, .ref kthis_stream_video, .ref kthis_stream_audio, .ref h2])), (h2, .inr (4, [.ref h3, .ref h4, .int v2_total, .int v2_phases])), (h3, .inl (cI, 20, .inl r3)), (h4, .inl (cI, 20, .inl r4))]) (cells1 := 1) (slots1 := 6) S (c_X9_requireArgument l hfl ga D cI cJ cC  s.heap.size 0 k2 e_k2) (cw_X9_40 S.2.2.2.2 ⟨Nat.le_of_ble_eq_true rfl, Nat.le_of_ble_eq_true rfl⟩) hK hP hD hS hA hG [] [0, 1, 2, 3, 4] rfl rfl rfl (by decide) (by decide) (by decide) rfl hl.1 rfl (Nat.le_of_ble_eq_true rfl) ⟨Nat.le_of_ble_eq_true rfl, Nat.le_of_ble_eq_true rfl⟩ rfl rfl rfl rfl dX9_bandwidth_9 (fun c3 H locs ce q9 hP hD hS hce hcv hcl => ?_) (fun c3 H locs hP hD hS => ?_)
    · have h := iteN c3 h
      have hP : va_P D vwCl [(h0, .inr (9, [.ref h1, .ref kthis_session, .ref kthis_scratch])), (h1, .inr (8, [.ref kthis_stream_values, .ref kthis_stream_video, .ref kthis_stream_audio, .ref h2])), (h2, .inr (4, [.ref h3, .ref h4, .int v2_total, .int v2_phases])), (h3, .inl (cI, 20, .inl r3)), (h4, .inl (cI, 20, .inl r4))] H := hP
      have hD : va_D A [(h0, .inr (9, [.ref h1, .ref kthis_session, .ref kthis_scratch])), (h1, .inr (8, [.ref kthis_stream_values, .ref kthis_stream_video, .ref kthis_stream_audio, .ref h2])), (h2, .inr (4, [.ref h3, .ref h4, .int v2_total, .int v2_phases])), (h3, .inl (cI, 20, .inl r3)), (h4, .inl (cI, 20, .inl r4))] := hD
      subst h
      exact xout hnt hlk c3 (hP.sub [0, 1, 2, 3, 4] rfl) (hD.sub [0, 1, 2, 3, 4] (by decide) rfl) hS hce hcv hcl (Nat.le_of_ble_eq_true rfl) (Nat.le_of_ble_eq_true rfl)
    · have h := iteP c3 h
      have hP : va_P D vwCl [(h0, .inr (9, [.ref h1, .ref kthis_session, .ref kthis_scratch])), (h1, .inr (8, [.ref kthis_stream_values, .ref kthis_stream_video, .ref kthis_stream_audio, .ref h2])), (h2, .inr (4, [.ref h3, .ref h4, .int v2_total, .int v2_phases])), (h3, .inl (cI, 20, .inl r3)), (h4, .inl (cI, 20, .inl r4))] H := hP
      have hD : va_D A [(h0, .inr (9, [.ref h1, .ref kthis_session, .ref kthis_scratch])), (h1, .inr (8, [.ref kthis_stream_values, .ref kthis_stream_video, .ref kthis_stream_audio, .ref h2])), (h2, .inr (4, [.ref h3, .ref h4, .int v2_total, .int v2_phases])), (h3, .inl (cI, 20, .inl r3)), (h4, .inl (cI, 20, .inl r4))] := hD
      refine lv_aload_n hx hb dX9_bandwidth_12 rfl (lv_at hl 0 rfl) ?_
      refine gf_X9_10 (v := .ref h1) S hK hP 0 rfl rfl dX9_bandwidth_13 ?_
      refine gf_X9_74 (v := .ref h2) S hK hP 1 rfl rfl dX9_bandwidth_16 ?_
      refine lv_iload_n hx hb dX9_bandwidth_19 rfl (lv_at hl 1 rfl) ?_
      refine rdV (pc1 := 23) (rest := []) (st1 := [.int (f_X4_rateAt v2_total v2_phases r3 r4 p0)]) S (c_X4_rateAt l D cI cJ cC h2 h3 h4 v2_total v2_phases r3 r4 p0 _ rfl) (cw_X9_91 S.2.2.2.2 ⟨Nat.le_of_ble_eq_true rfl, Nat.le_of_ble_eq_true rfl⟩) hK (hP.sub [2, 3, 4] rfl) rfl rfl rfl rfl hl.1 rfl (Nat.le_of_ble_eq_true rfl) ⟨Nat.le_of_ble_eq_true rfl, Nat.le_of_ble_eq_true rfl⟩ rfl rfl dX9_bandwidth_20 ?_
      subst h
      exact xRi S hr hlk (Nat.le_of_ble_eq_true rfl) (Nat.le_of_ble_eq_true rfl) (hP.sub [0, 1, 2, 3, 4] rfl) (hD.sub [0, 1, 2, 3, 4] (by decide) rfl) hS dX9_bandwidth_23
  · have h := iteN c1 h
    refine lv_iconst (v := 1) hx hb dX9_bandwidth_4 li_1 ?_
    refine lv_goto (tgt := 9) hx hb dX9_bandwidth_5 (by decide) ?_
    obtain ⟨k4, e_k4⟩ : ∃ a0, f_X9_requireArgument 1 = a0 := ⟨_, rfl⟩
    have h := bnd_eq e_k4 h
    refine xcS (pc1 := 12) (rest := []) (st1 := []) (wr := [(h0, .inr (9, [.ref h1, .ref kthis_session, .ref kthis_scratch])), (h1, .inr (8, [.ref kthis_stream_values, .ref kthis_stream_video, .ref kthis_stream_audio, .ref h2])), (h2, .inr (4, [.ref h3, .ref h4, .int v2_total, .int v2_phases])), (h3, .inl (cI, 20, .inl r3)), (h4, .inl (cI, 20, .inl r4))]) (cells1 := 1) (slots1 := 6) S (c_X9_requireArgument l hfl ga D cI cJ cC  s.heap.size 1 k4 e_k4) (cw_X9_40 S.2.2.2.2 ⟨Nat.le_of_ble_eq_true rfl, Nat.le_of_ble_eq_true rfl⟩) hK hP hD hS hA hG [] [0, 1, 2, 3, 4] rfl rfl rfl (by decide) (by decide) (by decide) rfl hl.1 rfl (Nat.le_of_ble_eq_true rfl) ⟨Nat.le_of_ble_eq_true rfl, Nat.le_of_ble_eq_true rfl⟩ rfl rfl rfl rfl dX9_bandwidth_9 (fun c5 H locs ce q9 hP hD hS hce hcv hcl => ?_) (fun c5 H locs hP hD hS => ?_)
    · have h := iteN c5 h
      have hP : va_P D vwCl [(h0, .inr (9, [.ref h1, .ref kthis_session, .ref kthis_scratch])), (h1, .inr (8, [.ref kthis_stream_values, .ref kthis_stream_video, .ref kthis_stream_audio, .ref h2])), (h2, .inr (4, [.ref h3, .ref h4, .int v2_total, .int v2_phases])), (h3, .inl (cI, 20, .inl r3)), (h4, .inl (cI, 20, .inl r4))] H := hP
      have hD : va_D A [(h0, .inr (9, [.ref h1, .ref kthis_session, .ref kthis_scratch])), (h1, .inr (8, [.ref kthis_stream_values, .ref kthis_stream_video, .ref kthis_stream_audio, .ref h2])), (h2, .inr (4, [.ref h3, .ref h4, .int v2_total, .int v2_phases])), (h3, .inl (cI, 20, .inl r3)), (h4, .inl (cI, 20, .inl r4))] := hD
      subst h
      exact xout hnt hlk c5 (hP.sub [0, 1, 2, 3, 4] rfl) (hD.sub [0, 1, 2, 3, 4] (by decide) rfl) hS hce hcv hcl (Nat.le_of_ble_eq_true rfl) (Nat.le_of_ble_eq_true rfl)
    · have h := iteP c5 h
      have hP : va_P D vwCl [(h0, .inr (9, [.ref h1, .ref kthis_session, .ref kthis_scratch])), (h1, .inr (8, [.ref kthis_stream_values, .ref kthis_stream_video, .ref kthis_stream_audio, .ref h2])), (h2, .inr (4, [.ref h3, .ref h4, .int v2_total, .int v2_phases])), (h3, .inl (cI, 20, .inl r3)), (h4, .inl (cI, 20, .inl r4))] H := hP
      have hD : va_D A [(h0, .inr (9, [.ref h1, .ref kthis_session, .ref kthis_scratch])), (h1, .inr (8, [.ref kthis_stream_values, .ref kthis_stream_video, .ref kthis_stream_audio, .ref h2])), (h2, .inr (4, [.ref h3, .ref h4, .int v2_total, .int v2_phases])), (h3, .inl (cI, 20, .inl r3)), (h4, .inl (cI, 20, .inl r4))] := hD
      refine lv_aload_n hx hb dX9_bandwidth_12 rfl (lv_at hl 0 rfl) ?_
      refine gf_X9_10 (v := .ref h1) S hK hP 0 rfl rfl dX9_bandwidth_13 ?_
      refine gf_X9_74 (v := .ref h2) S hK hP 1 rfl rfl dX9_bandwidth_16 ?_
      refine lv_iload_n hx hb dX9_bandwidth_19 rfl (lv_at hl 1 rfl) ?_
      refine rdV (pc1 := 23) (rest := []) (st1 := [.int (f_X4_rateAt v2_total v2_phases r3 r4 p0)]) S (c_X4_rateAt l D cI cJ cC h2 h3 h4 v2_total v2_phases r3 r4 p0 _ rfl) (cw_X9_91 S.2.2.2.2 ⟨Nat.le_of_ble_eq_true rfl, Nat.le_of_ble_eq_true rfl⟩) hK (hP.sub [2, 3, 4] rfl) rfl rfl rfl rfl hl.1 rfl (Nat.le_of_ble_eq_true rfl) ⟨Nat.le_of_ble_eq_true rfl, Nat.le_of_ble_eq_true rfl⟩ rfl rfl dX9_bandwidth_20 ?_
      subst h
      exact xRi S hr hlk (Nat.le_of_ble_eq_true rfl) (Nat.le_of_ble_eq_true rfl) (hP.sub [0, 1, 2, 3, 4] rfl) (hD.sub [0, 1, 2, 3, 4] (by decide) rfl) hS dX9_bandwidth_23
abbrev rm_X9_size : Room := { frames := 8, cells := 3, slots := 18, locals := 131 }
theorem dX9_size_0 : decode cX9_size 0 = .ok (.iload_n 1, 1) := by decide +kernel
theorem dX9_size_1 : decode cX9_size 1 = .ok (.iconst 2, 1) := by decide +kernel
theorem dX9_size_2 : decode cX9_size 2 = .ok (.invokestatic 32, 3) := by decide +kernel
theorem dX9_size_5 : decode cX9_size 5 = .ok (.iload_n 2, 1) := by decide +kernel
theorem dX9_size_6 : decode cX9_size 6 = .ok (.aload_n 0, 1) := by decide +kernel
theorem dX9_size_7 : decode cX9_size 7 = .ok (.getfield 10, 3) := by decide +kernel
theorem dX9_size_10 : decode cX9_size 10 = .ok (.iload_n 1, 1) := by decide +kernel
theorem dX9_size_11 : decode cX9_size 11 = .ok (.invokevirtual 51, 3) := by decide +kernel
theorem dX9_size_14 : decode cX9_size 14 = .ok (.getfield 94, 3) := by decide +kernel
theorem dX9_size_17 : decode cX9_size 17 = .ok (.invokestatic 32, 3) := by decide +kernel
theorem dX9_size_20 : decode cX9_size 20 = .ok (.iload_n 3, 1) := by decide +kernel
theorem dX9_size_21 : decode cX9_size 21 = .ok (.aload_n 0, 1) := by decide +kernel
theorem dX9_size_22 : decode cX9_size 22 = .ok (.getfield 10, 3) := by decide +kernel
theorem dX9_size_25 : decode cX9_size 25 = .ok (.iconst 1, 1) := by decide +kernel
theorem dX9_size_26 : decode cX9_size 26 = .ok (.invokevirtual 97, 3) := by decide +kernel
theorem dX9_size_29 : decode cX9_size 29 = .ok (.invokestatic 32, 3) := by decide +kernel
theorem dX9_size_32 : decode cX9_size 32 = .ok (.aload_n 0, 1) := by decide +kernel
theorem dX9_size_33 : decode cX9_size 33 = .ok (.getfield 10, 3) := by decide +kernel
theorem dX9_size_36 : decode cX9_size 36 = .ok (.iload_n 1, 1) := by decide +kernel
theorem dX9_size_37 : decode cX9_size 37 = .ok (.iload_n 2, 1) := by decide +kernel
theorem dX9_size_38 : decode cX9_size 38 = .ok (.iload_n 3, 1) := by decide +kernel
theorem dX9_size_39 : decode cX9_size 39 = .ok (.invokevirtual 100, 3) := by decide +kernel
theorem dX9_size_42 : decode cX9_size 42 = .ok (.lreturn, 1) := by decide +kernel
theorem gf_X9_94 {p : Program} {l : Launch} {e : Env} {R : Room} {s : State} {m : MethodId} {args : Array Value} {below : List Frame} {meth : Method} {c : Code} {H : Heap} {locs : List Loc} {cells slots : Nat} {Q : State → Prop} {cc : ByteArray} {pc nL : Nat} {ls : Array Slot} {rest : List Value} {D : va_G} {ws : va_W} {tys : List (ClassId × FieldType)} (S : CallFix p m c cc nL s args TB RX9) (hK : va_K D vwCl tys s) (hP : va_P D vwCl ws H) (q0 : Nat) {a : Nat} {fs : List Value} (he : ws[q0]? = some (a, .inr (2, fs))) {v : Value} (hv : fs[2]? = some v) (hdg : decode cc pc = .ok (.getfield 94, 3))
    (kk : W p l e R s m args below meth c H locs cells slots Q (F0 m (pc + 3) ls (v :: rest))) : W p l e R s m args below meth c H locs cells slots Q (F0 m pc ls (.ref a :: rest)) :=
  va_get (D := D) (ci := 2) (C := RX2) (T := TX2) (N := 3) S.1 S.2.1 S.2.2.2.2 iwX2 S.2.2.2.1 hK hP q0 he rfl 2 (by decide) (S.2.2.2.2 _ tb95) (fun _ h9 => h9) hv hdg kk
theorem cw_X9_97 {R : Room} {s : State} {args : Array Value} (hts : ∀ w ∈ TB, w.before args s = true) (hR : rm_X8_valueOf.frames + 1 ≤ R.frames ∧ 8 + (2 + 11) + rm_X8_valueOf.locals ≤ R.locals) : CallW R s args RX9 RX8 97 yX8_valueOf cX8_valueOf 2 (some .int) (Cond.code yX8_valueOf cX8_valueOf 2 (some .int) :: TB) rm_X8_valueOf 0 0 1 := cwV 1 hts (gV tb574 tb356 tb357 tb48 tb358) rfl rfl rfl ⟨rfl, by decide, by decide, by decide +kernel⟩ hR
theorem cw_X9_100 {R : Room} {s : State} {args : Array Value} (hts : ∀ w ∈ TB, w.before args s = true) (hR : rm_X8_bitsOf.frames + 1 ≤ R.frames ∧ 8 + (8 + 11) + rm_X8_bitsOf.locals ≤ R.locals) : CallW R s args RX9 RX8 100 yX8_bitsOf cX8_bitsOf 8 (some .long) (Cond.code yX8_bitsOf cX8_bitsOf 8 (some .long) :: TB) rm_X8_bitsOf 0 0 3 := cwV 3 hts (gV tb575 tb576 tb577 tb48 tb578) rfl rfl rfl ⟨rfl, by decide, by decide, by decide +kernel⟩ hR
def f_X9_size (v2_rungs : Int32) (r3 r4 : Nat → Int32) (v5_rungs : Int32) (r6 : Nat → Int32) (p0 p1 p2 : Int32) : Nat × Int64 :=
  bnd (f_X9_requireIndex p0 2) fun (k1 : Nat) =>
  if k1 = 0 then
    if p0 = 0 then
      bnd (f_X9_requireIndex p1 v5_rungs) fun (k4 : Nat) =>
      if k4 = 0 then
        bnd (f_X9_requireIndex p2 (f_X8_valueOf r4 1)) fun (k6 : Nat) =>
        if k6 = 0 then
          (0, f_X8_bitsOf_0 r4 r6 p0 p1 p2)
        else
          (k6, 0)
      else
        (k4, 0)
    else
      bnd (f_X9_requireIndex p1 v2_rungs) fun (k8 : Nat) =>
      if k8 = 0 then
        bnd (f_X9_requireIndex p2 (f_X8_valueOf r4 1)) fun (k10 : Nat) =>
        if k10 = 0 then
          (0, f_X8_bitsOf_1 r3 r4 p0 p1 p2)
        else
          (k10, 0)
      else
        (k8, 0)
  else
    (k1, 0)
set_option maxHeartbeats 4000000 in
set_option maxRecDepth 100000 in
theorem c_X9_size (l : Launch) (hfl : l.stackTraces = false) (ga : Nat → Nat) (D : va_G) (cI cJ cC : ClassId) (h0 h1 h2 h3 h4 h5 h6 kthis_session kthis_scratch kthis_stream_plan : Nat) (v2_most v2_rungs : Int32) (r3 r4 : Nat → Int32) (v5_most v5_rungs : Int32) (r6 : Nat → Int32) (sz : Nat) (p0 p1 p2 : Int32) (T : Nat × Int64) (h : f_X9_size v2_rungs r3 r4 v5_rungs r6 p0 p1 p2 = T) : vx_Met l yX9_size (Cond.code yX9_size cX9_size 4 (some .long) :: TB) rm_X9_size (PreX ga D cI cJ cC [(h0, .inr (9, [.ref h1, .ref kthis_session, .ref kthis_scratch])), (h1, .inr (8, [.ref h4, .ref h5, .ref h2, .ref kthis_stream_plan])), (h2, .inr (2, [.ref h3, .int v2_most, .int v2_rungs])), (h3, .inl (cI, 6, .inl r3)), (h4, .inl (cI, 15, .inl r4)), (h5, .inr (2, [.ref h6, .int v5_most, .int v5_rungs])), (h6, .inl (cI, 6, .inl r6))] sz [.ref h0, .int p0, .int p1, .int p2]) (QX T.1 (some (.long T.2)) D [(h0, .inr (9, [.ref h1, .ref kthis_session, .ref kthis_scratch])), (h1, .inr (8, [.ref h4, .ref h5, .ref h2, .ref kthis_stream_plan])), (h2, .inr (2, [.ref h3, .int v2_most, .int v2_rungs])), (h3, .inl (cI, 6, .inl r3)), (h4, .inl (cI, 15, .inl r4)), (h5, .inr (2, [.ref h6, .int v5_most, .int v5_rungs])), (h6, .inl (cI, 6, .inl r6))] (va_A [(h0, .inr (9, [.ref h1, .ref kthis_session, .ref kthis_scratch])), (h1, .inr (8, [.ref h4, .ref h5, .ref h2, .ref kthis_stream_plan])), (h2, .inr (2, [.ref h3, .int v2_most, .int v2_rungs])), (h3, .inl (cI, 6, .inl r3)), (h4, .inl (cI, 15, .inl r4)), (h5, .inr (2, [.ref h6, .int v5_most, .int v5_rungs])), (h6, .inl (cI, 6, .inl r6))] sz)) (XX T.1 D [(h0, .inr (9, [.ref h1, .ref kthis_session, .ref kthis_scratch])), (h1, .inr (8, [.ref h4, .ref h5, .ref h2, .ref kthis_stream_plan])), (h2, .inr (2, [.ref h3, .int v2_most, .int v2_rungs])), (h3, .inl (cI, 6, .inl r3)), (h4, .inl (cI, 15, .inl r4)), (h5, .inr (2, [.ref h6, .int v5_most, .int v5_rungs])), (h6, .inl (cI, 6, .inl r6))] (va_A [(h0, .inr (9, [.ref h1, .ref kthis_session, .ref kthis_scratch])), (h1, .inr (8, [.ref h4, .ref h5, .ref h2, .ref kthis_stream_plan])), (h2, .inr (2, [.ref h3, .int v2_most, .int v2_rungs])), (h3, .inl (cI, 6, .inl r3)), (h4, .inl (cI, 15, .inl r4)), (h5, .inr (2, [.ref h6, .int v5_most, .int v5_rungs])), (h6, .inl (cI, 6, .inl r6))] sz)) 3 18 (va_A [(h0, .inr (9, [.ref h1, .ref kthis_session, .ref kthis_scratch])), (h1, .inr (8, [.ref h4, .ref h5, .ref h2, .ref kthis_stream_plan])), (h2, .inr (2, [.ref h3, .int v2_most, .int v2_rungs])), (h3, .inl (cI, 6, .inl r3)), (h4, .inl (cI, 15, .inl r4)), (h5, .inr (2, [.ref h6, .int v5_most, .int v5_rungs])), (h6, .inl (cI, 6, .inl r6))] sz) := by
  refine metX (own := RX9) (by decide) rfl (Nat.le_of_ble_eq_true rfl) ?_
  intro p e s m below meth c S hr hlk hnt hP hK A hAe hD hA hS hG ls hl
  clear hAe
  have hx := S.1
  have hb := S.2.1
  have hl : lv_has ls 4 [(0, .ref h0), (1, .int p0), (2, .int p1), (3, .int p2)] := hl
  refine lv_iload_n hx hb dX9_size_0 rfl (lv_at hl 1 rfl) ?_
  refine lv_iconst (v := 2) hx hb dX9_size_1 li_2 ?_
  obtain ⟨k1, e_k1⟩ : ∃ a0, f_X9_requireIndex p0 2 = a0 := ⟨_, rfl⟩
  have h := bnd_eq e_k1 h
  refine xcS (pc1 := 5) (rest := []) (st1 := []) (wr := [(h0, .inr (9, [.ref h1, .ref kthis_session, .ref kthis_scratch])), (h1, .inr (8, [.ref h4, .ref h5, .ref h2, .ref kthis_stream_plan])), (h2, .inr (2, [.ref h3, .int v2_most, .int v2_rungs])), (h3, .inl (cI, 6, .inl r3)), (h4, .inl (cI, 15, .inl r4)), (h5, .inr (2, [.ref h6, .int v5_most, .int v5_rungs])), (h6, .inl (cI, 6, .inl r6))]) (cells1 := 1) (slots1 := 6) S (c_X9_requireIndex l hfl ga D cI cJ cC  s.heap.size p0 2 k1 e_k1) (cw_X9_32 S.2.2.2.2 ⟨Nat.le_of_ble_eq_true rfl, Nat.le_of_ble_eq_true rfl⟩) hK hP hD hS hA hG [] [0, 1, 2, 3, 4, 5, 6] rfl rfl rfl (by decide) (by decide) (by decide) rfl hl.1 rfl (Nat.le_of_ble_eq_true rfl) ⟨Nat.le_of_ble_eq_true rfl, Nat.le_of_ble_eq_true rfl⟩ rfl rfl rfl rfl dX9_size_2 (fun c2 H locs ce q9 hP hD hS hce hcv hcl => ?_) (fun c2 H locs hP hD hS => ?_)
  · have h := iteN c2 h
    have hP : va_P D vwCl [(h0, .inr (9, [.ref h1, .ref kthis_session, .ref kthis_scratch])), (h1, .inr (8, [.ref h4, .ref h5, .ref h2, .ref kthis_stream_plan])), (h2, .inr (2, [.ref h3, .int v2_most, .int v2_rungs])), (h3, .inl (cI, 6, .inl r3)), (h4, .inl (cI, 15, .inl r4)), (h5, .inr (2, [.ref h6, .int v5_most, .int v5_rungs])), (h6, .inl (cI, 6, .inl r6))] H := hP
    have hD : va_D A [(h0, .inr (9, [.ref h1, .ref kthis_session, .ref kthis_scratch])), (h1, .inr (8, [.ref h4, .ref h5, .ref h2, .ref kthis_stream_plan])), (h2, .inr (2, [.ref h3, .int v2_most, .int v2_rungs])), (h3, .inl (cI, 6, .inl r3)), (h4, .inl (cI, 15, .inl r4)), (h5, .inr (2, [.ref h6, .int v5_most, .int v5_rungs])), (h6, .inl (cI, 6, .inl r6))] := hD
    subst h
    exact xout hnt hlk c2 (hP.sub [0, 1, 2, 3, 4, 5, 6] rfl) (hD.sub [0, 1, 2, 3, 4, 5, 6] (by decide) rfl) hS hce hcv hcl (Nat.le_of_ble_eq_true rfl) (Nat.le_of_ble_eq_true rfl)
  · have h := iteP c2 h
    have hP : va_P D vwCl [(h0, .inr (9, [.ref h1, .ref kthis_session, .ref kthis_scratch])), (h1, .inr (8, [.ref h4, .ref h5, .ref h2, .ref kthis_stream_plan])), (h2, .inr (2, [.ref h3, .int v2_most, .int v2_rungs])), (h3, .inl (cI, 6, .inl r3)), (h4, .inl (cI, 15, .inl r4)), (h5, .inr (2, [.ref h6, .int v5_most, .int v5_rungs])), (h6, .inl (cI, 6, .inl r6))] H := hP
    have hD : va_D A [(h0, .inr (9, [.ref h1, .ref kthis_session, .ref kthis_scratch])), (h1, .inr (8, [.ref h4, .ref h5, .ref h2, .ref kthis_stream_plan])), (h2, .inr (2, [.ref h3, .int v2_most, .int v2_rungs])), (h3, .inl (cI, 6, .inl r3)), (h4, .inl (cI, 15, .inl r4)), (h5, .inr (2, [.ref h6, .int v5_most, .int v5_rungs])), (h6, .inl (cI, 6, .inl r6))] := hD
    refine lv_iload_n hx hb dX9_size_5 rfl (lv_at hl 2 rfl) ?_
    refine lv_aload_n hx hb dX9_size_6 rfl (lv_at hl 0 rfl) ?_
    refine gf_X9_10 (v := .ref h1) S hK hP 0 rfl rfl dX9_size_7 ?_
    refine lv_iload_n hx hb dX9_size_10 rfl (lv_at hl 1 rfl) ?_
    by_cases c3 : p0 = 0
    · have h := iteP c3 h
      refine rdV (pc1 := 14) (rest := [.int p1]) (st1 := [.ref h5, .int p1]) S (c_X8_ladderOf_0 l D cI cJ cC h1 h4 h5 h2 kthis_stream_plan p0 c3) (cw_X9_51 S.2.2.2.2 ⟨Nat.le_of_ble_eq_true rfl, Nat.le_of_ble_eq_true rfl⟩) hK (hP.sub [1] rfl) rfl rfl rfl rfl hl.1 rfl (Nat.le_of_ble_eq_true rfl) ⟨Nat.le_of_ble_eq_true rfl, Nat.le_of_ble_eq_true rfl⟩ rfl rfl dX9_size_11 ?_
      refine gf_X9_94 (v := .int v5_rungs) S hK hP 5 rfl rfl dX9_size_14 ?_
      obtain ⟨k4, e_k4⟩ : ∃ a0, f_X9_requireIndex p1 v5_rungs = a0 := ⟨_, rfl⟩
      have h := bnd_eq e_k4 h
      refine xcS (pc1 := 20) (rest := []) (st1 := []) (wr := [(h0, .inr (9, [.ref h1, .ref kthis_session, .ref kthis_scratch])), (h1, .inr (8, [.ref h4, .ref h5, .ref h2, .ref kthis_stream_plan])), (h2, .inr (2, [.ref h3, .int v2_most, .int v2_rungs])), (h3, .inl (cI, 6, .inl r3)), (h4, .inl (cI, 15, .inl r4)), (h5, .inr (2, [.ref h6, .int v5_most, .int v5_rungs])), (h6, .inl (cI, 6, .inl r6))]) (cells1 := 2) (slots1 := 12) S (c_X9_requireIndex l hfl ga D cI cJ cC  H.size p1 v5_rungs k4 e_k4) (cw_X9_32 S.2.2.2.2 ⟨Nat.le_of_ble_eq_true rfl, Nat.le_of_ble_eq_true rfl⟩) hK hP hD hS hA hG [] [0, 1, 2, 3, 4, 5, 6] rfl rfl rfl (by decide) (by decide) (by decide) rfl hl.1 rfl (Nat.le_of_ble_eq_true rfl) ⟨Nat.le_of_ble_eq_true rfl, Nat.le_of_ble_eq_true rfl⟩ rfl rfl rfl rfl dX9_size_17 (fun c5 H locs ce q9 hP hD hS hce hcv hcl => ?_) (fun c5 H locs hP hD hS => ?_)
      · have h := iteN c5 h
        have hP : va_P D vwCl [(h0, .inr (9, [.ref h1, .ref kthis_session, .ref kthis_scratch])), (h1, .inr (8, [.ref h4, .ref h5, .ref h2, .ref kthis_stream_plan])), (h2, .inr (2, [.ref h3, .int v2_most, .int v2_rungs])), (h3, .inl (cI, 6, .inl r3)), (h4, .inl (cI, 15, .inl r4)), (h5, .inr (2, [.ref h6, .int v5_most, .int v5_rungs])), (h6, .inl (cI, 6, .inl r6))] H := hP
        have hD : va_D A [(h0, .inr (9, [.ref h1, .ref kthis_session, .ref kthis_scratch])), (h1, .inr (8, [.ref h4, .ref h5, .ref h2, .ref kthis_stream_plan])), (h2, .inr (2, [.ref h3, .int v2_most, .int v2_rungs])), (h3, .inl (cI, 6, .inl r3)), (h4, .inl (cI, 15, .inl r4)), (h5, .inr (2, [.ref h6, .int v5_most, .int v5_rungs])), (h6, .inl (cI, 6, .inl r6))] := hD
        subst h
        exact xout hnt hlk c5 (hP.sub [0, 1, 2, 3, 4, 5, 6] rfl) (hD.sub [0, 1, 2, 3, 4, 5, 6] (by decide) rfl) hS hce hcv hcl (Nat.le_of_ble_eq_true rfl) (Nat.le_of_ble_eq_true rfl)
      · have h := iteP c5 h
        have hP : va_P D vwCl [(h0, .inr (9, [.ref h1, .ref kthis_session, .ref kthis_scratch])), (h1, .inr (8, [.ref h4, .ref h5, .ref h2, .ref kthis_stream_plan])), (h2, .inr (2, [.ref h3, .int v2_most, .int v2_rungs])), (h3, .inl (cI, 6, .inl r3)), (h4, .inl (cI, 15, .inl r4)), (h5, .inr (2, [.ref h6, .int v5_most, .int v5_rungs])), (h6, .inl (cI, 6, .inl r6))] H := hP
        have hD : va_D A [(h0, .inr (9, [.ref h1, .ref kthis_session, .ref kthis_scratch])), (h1, .inr (8, [.ref h4, .ref h5, .ref h2, .ref kthis_stream_plan])), (h2, .inr (2, [.ref h3, .int v2_most, .int v2_rungs])), (h3, .inl (cI, 6, .inl r3)), (h4, .inl (cI, 15, .inl r4)), (h5, .inr (2, [.ref h6, .int v5_most, .int v5_rungs])), (h6, .inl (cI, 6, .inl r6))] := hD
        refine lv_iload_n hx hb dX9_size_20 rfl (lv_at hl 3 rfl) ?_
        refine lv_aload_n hx hb dX9_size_21 rfl (lv_at hl 0 rfl) ?_
        refine gf_X9_10 (v := .ref h1) S hK hP 0 rfl rfl dX9_size_22 ?_
        refine lv_iconst (v := 1) hx hb dX9_size_25 li_1 ?_
        refine rdV (pc1 := 29) (rest := [.int p2]) (st1 := [.int (f_X8_valueOf r4 1), .int p2]) S (c_X8_valueOf l D cI cJ cC h1 h4 h5 h2 kthis_stream_plan r4 1 _ rfl) (cw_X9_97 S.2.2.2.2 ⟨Nat.le_of_ble_eq_true rfl, Nat.le_of_ble_eq_true rfl⟩) hK (hP.sub [1, 4] rfl) rfl rfl rfl rfl hl.1 rfl (Nat.le_of_ble_eq_true rfl) ⟨Nat.le_of_ble_eq_true rfl, Nat.le_of_ble_eq_true rfl⟩ rfl rfl dX9_size_26 ?_
        obtain ⟨k6, e_k6⟩ : ∃ a0, f_X9_requireIndex p2 (f_X8_valueOf r4 1) = a0 := ⟨_, rfl⟩
        have h := bnd_eq e_k6 h
        refine xcS (pc1 := 32) (rest := []) (st1 := []) (wr := [(h0, .inr (9, [.ref h1, .ref kthis_session, .ref kthis_scratch])), (h1, .inr (8, [.ref h4, .ref h5, .ref h2, .ref kthis_stream_plan])), (h2, .inr (2, [.ref h3, .int v2_most, .int v2_rungs])), (h3, .inl (cI, 6, .inl r3)), (h4, .inl (cI, 15, .inl r4)), (h5, .inr (2, [.ref h6, .int v5_most, .int v5_rungs])), (h6, .inl (cI, 6, .inl r6))]) (cells1 := 3) (slots1 := 18) S (c_X9_requireIndex l hfl ga D cI cJ cC  H.size p2 (f_X8_valueOf r4 1) k6 e_k6) (cw_X9_32 S.2.2.2.2 ⟨Nat.le_of_ble_eq_true rfl, Nat.le_of_ble_eq_true rfl⟩) hK hP hD hS hA hG [] [0, 1, 2, 3, 4, 5, 6] rfl rfl rfl (by decide) (by decide) (by decide) rfl hl.1 rfl (Nat.le_of_ble_eq_true rfl) ⟨Nat.le_of_ble_eq_true rfl, Nat.le_of_ble_eq_true rfl⟩ rfl rfl rfl rfl dX9_size_29 (fun c7 H locs ce q9 hP hD hS hce hcv hcl => ?_) (fun c7 H locs hP hD hS => ?_)
        · have h := iteN c7 h
          have hP : va_P D vwCl [(h0, .inr (9, [.ref h1, .ref kthis_session, .ref kthis_scratch])), (h1, .inr (8, [.ref h4, .ref h5, .ref h2, .ref kthis_stream_plan])), (h2, .inr (2, [.ref h3, .int v2_most, .int v2_rungs])), (h3, .inl (cI, 6, .inl r3)), (h4, .inl (cI, 15, .inl r4)), (h5, .inr (2, [.ref h6, .int v5_most, .int v5_rungs])), (h6, .inl (cI, 6, .inl r6))] H := hP
          have hD : va_D A [(h0, .inr (9, [.ref h1, .ref kthis_session, .ref kthis_scratch])), (h1, .inr (8, [.ref h4, .ref h5, .ref h2, .ref kthis_stream_plan])), (h2, .inr (2, [.ref h3, .int v2_most, .int v2_rungs])), (h3, .inl (cI, 6, .inl r3)), (h4, .inl (cI, 15, .inl r4)), (h5, .inr (2, [.ref h6, .int v5_most, .int v5_rungs])), (h6, .inl (cI, 6, .inl r6))] := hD
          subst h
          exact xout hnt hlk c7 (hP.sub [0, 1, 2, 3, 4, 5, 6] rfl) (hD.sub [0, 1, 2, 3, 4, 5, 6] (by decide) rfl) hS hce hcv hcl (Nat.le_of_ble_eq_true rfl) (Nat.le_of_ble_eq_true rfl)
        · have h := iteP c7 h
          have hP : va_P D vwCl [(h0, .inr (9, [.ref h1, .ref kthis_session, .ref kthis_scratch])), (h1, .inr (8, [.ref h4, .ref h5, .ref h2, .ref kthis_stream_plan])), (h2, .inr (2, [.ref h3, .int v2_most, .int v2_rungs])), (h3, .inl (cI, 6, .inl r3)), (h4, .inl (cI, 15, .inl r4)), (h5, .inr (2, [.ref h6, .int v5_most, .int v5_rungs])), (h6, .inl (cI, 6, .inl r6))] H := hP
          have hD : va_D A [(h0, .inr (9, [.ref h1, .ref kthis_session, .ref kthis_scratch])), (h1, .inr (8, [.ref h4, .ref h5, .ref h2, .ref kthis_stream_plan])), (h2, .inr (2, [.ref h3, .int v2_most, .int v2_rungs])), (h3, .inl (cI, 6, .inl r3)), (h4, .inl (cI, 15, .inl r4)), (h5, .inr (2, [.ref h6, .int v5_most, .int v5_rungs])), (h6, .inl (cI, 6, .inl r6))] := hD
          refine lv_aload_n hx hb dX9_size_32 rfl (lv_at hl 0 rfl) ?_
          refine gf_X9_10 (v := .ref h1) S hK hP 0 rfl rfl dX9_size_33 ?_
          refine lv_iload_n hx hb dX9_size_36 rfl (lv_at hl 1 rfl) ?_
          refine lv_iload_n hx hb dX9_size_37 rfl (lv_at hl 2 rfl) ?_
          refine lv_iload_n hx hb dX9_size_38 rfl (lv_at hl 3 rfl) ?_
          refine rdV (pc1 := 42) (rest := []) (st1 := [.long (f_X8_bitsOf_0 r4 r6 p0 p1 p2)]) S (c_X8_bitsOf_0 l D cI cJ cC h1 h4 h5 h6 h2 kthis_stream_plan r4 v5_most v5_rungs r6 p0 p1 p2 c3 _ rfl) (cw_X9_100 S.2.2.2.2 ⟨Nat.le_of_ble_eq_true rfl, Nat.le_of_ble_eq_true rfl⟩) hK (hP.sub [1, 4, 5, 6] rfl) rfl rfl rfl rfl hl.1 rfl (Nat.le_of_ble_eq_true rfl) ⟨Nat.le_of_ble_eq_true rfl, Nat.le_of_ble_eq_true rfl⟩ rfl rfl dX9_size_39 ?_
          subst h
          exact xRl S hr hlk (Nat.le_of_ble_eq_true rfl) (Nat.le_of_ble_eq_true rfl) (hP.sub [0, 1, 2, 3, 4, 5, 6] rfl) (hD.sub [0, 1, 2, 3, 4, 5, 6] (by decide) rfl) hS dX9_size_42
    · have h := iteN c3 h
      refine rdV (pc1 := 14) (rest := [.int p1]) (st1 := [.ref h2, .int p1]) S (c_X8_ladderOf_1 l D cI cJ cC h1 h4 h5 h2 kthis_stream_plan p0 c3) (cw_X9_51 S.2.2.2.2 ⟨Nat.le_of_ble_eq_true rfl, Nat.le_of_ble_eq_true rfl⟩) hK (hP.sub [1] rfl) rfl rfl rfl rfl hl.1 rfl (Nat.le_of_ble_eq_true rfl) ⟨Nat.le_of_ble_eq_true rfl, Nat.le_of_ble_eq_true rfl⟩ rfl rfl dX9_size_11 ?_
      refine gf_X9_94 (v := .int v2_rungs) S hK hP 2 rfl rfl dX9_size_14 ?_
      obtain ⟨k8, e_k8⟩ : ∃ a0, f_X9_requireIndex p1 v2_rungs = a0 := ⟨_, rfl⟩
      have h := bnd_eq e_k8 h
      refine xcS (pc1 := 20) (rest := []) (st1 := []) (wr := [(h0, .inr (9, [.ref h1, .ref kthis_session, .ref kthis_scratch])), (h1, .inr (8, [.ref h4, .ref h5, .ref h2, .ref kthis_stream_plan])), (h2, .inr (2, [.ref h3, .int v2_most, .int v2_rungs])), (h3, .inl (cI, 6, .inl r3)), (h4, .inl (cI, 15, .inl r4)), (h5, .inr (2, [.ref h6, .int v5_most, .int v5_rungs])), (h6, .inl (cI, 6, .inl r6))]) (cells1 := 2) (slots1 := 12) S (c_X9_requireIndex l hfl ga D cI cJ cC  H.size p1 v2_rungs k8 e_k8) (cw_X9_32 S.2.2.2.2 ⟨Nat.le_of_ble_eq_true rfl, Nat.le_of_ble_eq_true rfl⟩) hK hP hD hS hA hG [] [0, 1, 2, 3, 4, 5, 6] rfl rfl rfl (by decide) (by decide) (by decide) rfl hl.1 rfl (Nat.le_of_ble_eq_true rfl) ⟨Nat.le_of_ble_eq_true rfl, Nat.le_of_ble_eq_true rfl⟩ rfl rfl rfl rfl dX9_size_17 (fun c9 H locs ce q9 hP hD hS hce hcv hcl => ?_) (fun c9 H locs hP hD hS => ?_)
      · have h := iteN c9 h
        have hP : va_P D vwCl [(h0, .inr (9, [.ref h1, .ref kthis_session, .ref kthis_scratch])), (h1, .inr (8, [.ref h4, .ref h5, .ref h2, .ref kthis_stream_plan])), (h2, .inr (2, [.ref h3, .int v2_most, .int v2_rungs])), (h3, .inl (cI, 6, .inl r3)), (h4, .inl (cI, 15, .inl r4)), (h5, .inr (2, [.ref h6, .int v5_most, .int v5_rungs])), (h6, .inl (cI, 6, .inl r6))] H := hP
        have hD : va_D A [(h0, .inr (9, [.ref h1, .ref kthis_session, .ref kthis_scratch])), (h1, .inr (8, [.ref h4, .ref h5, .ref h2, .ref kthis_stream_plan])), (h2, .inr (2, [.ref h3, .int v2_most, .int v2_rungs])), (h3, .inl (cI, 6, .inl r3)), (h4, .inl (cI, 15, .inl r4)), (h5, .inr (2, [.ref h6, .int v5_most, .int v5_rungs])), (h6, .inl (cI, 6, .inl r6))] := hD
        subst h
        exact xout hnt hlk c9 (hP.sub [0, 1, 2, 3, 4, 5, 6] rfl) (hD.sub [0, 1, 2, 3, 4, 5, 6] (by decide) rfl) hS hce hcv hcl (Nat.le_of_ble_eq_true rfl) (Nat.le_of_ble_eq_true rfl)
      · have h := iteP c9 h
        have hP : va_P D vwCl [(h0, .inr (9, [.ref h1, .ref kthis_session, .ref kthis_scratch])), (h1, .inr (8, [.ref h4, .ref h5, .ref h2, .ref kthis_stream_plan])), (h2, .inr (2, [.ref h3, .int v2_most, .int v2_rungs])), (h3, .inl (cI, 6, .inl r3)), (h4, .inl (cI, 15, .inl r4)), (h5, .inr (2, [.ref h6, .int v5_most, .int v5_rungs])), (h6, .inl (cI, 6, .inl r6))] H := hP
        have hD : va_D A [(h0, .inr (9, [.ref h1, .ref kthis_session, .ref kthis_scratch])), (h1, .inr (8, [.ref h4, .ref h5, .ref h2, .ref kthis_stream_plan])), (h2, .inr (2, [.ref h3, .int v2_most, .int v2_rungs])), (h3, .inl (cI, 6, .inl r3)), (h4, .inl (cI, 15, .inl r4)), (h5, .inr (2, [.ref h6, .int v5_most, .int v5_rungs])), (h6, .inl (cI, 6, .inl r6))] := hD
        refine lv_iload_n hx hb dX9_size_20 rfl (lv_at hl 3 rfl) ?_
        refine lv_aload_n hx hb dX9_size_21 rfl (lv_at hl 0 rfl) ?_
        refine gf_X9_10 (v := .ref h1) S hK hP 0 rfl rfl dX9_size_22 ?_
        refine lv_iconst (v := 1) hx hb dX9_size_25 li_1 ?_
        refine rdV (pc1 := 29) (rest := [.int p2]) (st1 := [.int (f_X8_valueOf r4 1), .int p2]) S (c_X8_valueOf l D cI cJ cC h1 h4 h5 h2 kthis_stream_plan r4 1 _ rfl) (cw_X9_97 S.2.2.2.2 ⟨Nat.le_of_ble_eq_true rfl, Nat.le_of_ble_eq_true rfl⟩) hK (hP.sub [1, 4] rfl) rfl rfl rfl rfl hl.1 rfl (Nat.le_of_ble_eq_true rfl) ⟨Nat.le_of_ble_eq_true rfl, Nat.le_of_ble_eq_true rfl⟩ rfl rfl dX9_size_26 ?_
        obtain ⟨k10, e_k10⟩ : ∃ a0, f_X9_requireIndex p2 (f_X8_valueOf r4 1) = a0 := ⟨_, rfl⟩
        have h := bnd_eq e_k10 h
        refine xcS (pc1 := 32) (rest := []) (st1 := []) (wr := [(h0, .inr (9, [.ref h1, .ref kthis_session, .ref kthis_scratch])), (h1, .inr (8, [.ref h4, .ref h5, .ref h2, .ref kthis_stream_plan])), (h2, .inr (2, [.ref h3, .int v2_most, .int v2_rungs])), (h3, .inl (cI, 6, .inl r3)), (h4, .inl (cI, 15, .inl r4)), (h5, .inr (2, [.ref h6, .int v5_most, .int v5_rungs])), (h6, .inl (cI, 6, .inl r6))]) (cells1 := 3) (slots1 := 18) S (c_X9_requireIndex l hfl ga D cI cJ cC  H.size p2 (f_X8_valueOf r4 1) k10 e_k10) (cw_X9_32 S.2.2.2.2 ⟨Nat.le_of_ble_eq_true rfl, Nat.le_of_ble_eq_true rfl⟩) hK hP hD hS hA hG [] [0, 1, 2, 3, 4, 5, 6] rfl rfl rfl (by decide) (by decide) (by decide) rfl hl.1 rfl (Nat.le_of_ble_eq_true rfl) ⟨Nat.le_of_ble_eq_true rfl, Nat.le_of_ble_eq_true rfl⟩ rfl rfl rfl rfl dX9_size_29 (fun c11 H locs ce q9 hP hD hS hce hcv hcl => ?_) (fun c11 H locs hP hD hS => ?_)
        · have h := iteN c11 h
          have hP : va_P D vwCl [(h0, .inr (9, [.ref h1, .ref kthis_session, .ref kthis_scratch])), (h1, .inr (8, [.ref h4, .ref h5, .ref h2, .ref kthis_stream_plan])), (h2, .inr (2, [.ref h3, .int v2_most, .int v2_rungs])), (h3, .inl (cI, 6, .inl r3)), (h4, .inl (cI, 15, .inl r4)), (h5, .inr (2, [.ref h6, .int v5_most, .int v5_rungs])), (h6, .inl (cI, 6, .inl r6))] H := hP
          have hD : va_D A [(h0, .inr (9, [.ref h1, .ref kthis_session, .ref kthis_scratch])), (h1, .inr (8, [.ref h4, .ref h5, .ref h2, .ref kthis_stream_plan])), (h2, .inr (2, [.ref h3, .int v2_most, .int v2_rungs])), (h3, .inl (cI, 6, .inl r3)), (h4, .inl (cI, 15, .inl r4)), (h5, .inr (2, [.ref h6, .int v5_most, .int v5_rungs])), (h6, .inl (cI, 6, .inl r6))] := hD
          subst h
          exact xout hnt hlk c11 (hP.sub [0, 1, 2, 3, 4, 5, 6] rfl) (hD.sub [0, 1, 2, 3, 4, 5, 6] (by decide) rfl) hS hce hcv hcl (Nat.le_of_ble_eq_true rfl) (Nat.le_of_ble_eq_true rfl)
        · have h := iteP c11 h
          have hP : va_P D vwCl [(h0, .inr (9, [.ref h1, .ref kthis_session, .ref kthis_scratch])), (h1, .inr (8, [.ref h4, .ref h5, .ref h2, .ref kthis_stream_plan])), (h2, .inr (2, [.ref h3, .int v2_most, .int v2_rungs])), (h3, .inl (cI, 6, .inl r3)), (h4, .inl (cI, 15, .inl r4)), (h5, .inr (2, [.ref h6, .int v5_most, .int v5_rungs])), (h6, .inl (cI, 6, .inl r6))] H := hP
          have hD : va_D A [(h0, .inr (9, [.ref h1, .ref kthis_session, .ref kthis_scratch])), (h1, .inr (8, [.ref h4, .ref h5, .ref h2, .ref kthis_stream_plan])), (h2, .inr (2, [.ref h3, .int v2_most, .int v2_rungs])), (h3, .inl (cI, 6, .inl r3)), (h4, .inl (cI, 15, .inl r4)), (h5, .inr (2, [.ref h6, .int v5_most, .int v5_rungs])), (h6, .inl (cI, 6, .inl r6))] := hD
          refine lv_aload_n hx hb dX9_size_32 rfl (lv_at hl 0 rfl) ?_
          refine gf_X9_10 (v := .ref h1) S hK hP 0 rfl rfl dX9_size_33 ?_
          refine lv_iload_n hx hb dX9_size_36 rfl (lv_at hl 1 rfl) ?_
          refine lv_iload_n hx hb dX9_size_37 rfl (lv_at hl 2 rfl) ?_
          refine lv_iload_n hx hb dX9_size_38 rfl (lv_at hl 3 rfl) ?_
          refine rdV (pc1 := 42) (rest := []) (st1 := [.long (f_X8_bitsOf_1 r3 r4 p0 p1 p2)]) S (c_X8_bitsOf_1 l D cI cJ cC h1 h2 h3 h4 h5 kthis_stream_plan v2_most v2_rungs r3 r4 p0 p1 p2 c3 _ rfl) (cw_X9_100 S.2.2.2.2 ⟨Nat.le_of_ble_eq_true rfl, Nat.le_of_ble_eq_true rfl⟩) hK (hP.sub [1, 2, 3, 4] rfl) rfl rfl rfl rfl hl.1 rfl (Nat.le_of_ble_eq_true rfl) ⟨Nat.le_of_ble_eq_true rfl, Nat.le_of_ble_eq_true rfl⟩ rfl rfl dX9_size_39 ?_
          subst h
          exact xRl S hr hlk (Nat.le_of_ble_eq_true rfl) (Nat.le_of_ble_eq_true rfl) (hP.sub [0, 1, 2, 3, 4, 5, 6] rfl) (hD.sub [0, 1, 2, 3, 4, 5, 6] (by decide) rfl) hS dX9_size_42
abbrev rm_X9_start : Room := { frames := 8, cells := 2, slots := 12, locals := 130 }
theorem dX9_start_0 : decode cX9_start 0 = .ok (.aload_n 0, 1) := by decide +kernel
theorem dX9_start_1 : decode cX9_start 1 = .ok (.invokevirtual 44, 3) := by decide +kernel
theorem dX9_start_4 : decode cX9_start 4 = .ok (.aload_n 0, 1) := by decide +kernel
theorem dX9_start_5 : decode cX9_start 5 = .ok (.getfield 10, 3) := by decide +kernel
theorem dX9_start_8 : decode cX9_start 8 = .ok (.invokevirtual 104, 3) := by decide +kernel
theorem dX9_start_11 : decode cX9_start 11 = .ok (.invokestatic 66, 3) := by decide +kernel
theorem dX9_start_14 : decode cX9_start 14 = .ok (.aload_n 0, 1) := by decide +kernel
theorem dX9_start_15 : decode cX9_start 15 = .ok (.getfield 21, 3) := by decide +kernel
theorem dX9_start_18 : decode cX9_start 18 = .ok (.aload_n 0, 1) := by decide +kernel
theorem dX9_start_19 : decode cX9_start 19 = .ok (.getfield 10, 3) := by decide +kernel
theorem dX9_start_22 : decode cX9_start 22 = .ok (.bipush 12, 2) := by decide +kernel
theorem dX9_start_24 : decode cX9_start 24 = .ok (.invokevirtual 97, 3) := by decide +kernel
theorem dX9_start_27 : decode cX9_start 27 = .ok (.aload_n 0, 1) := by decide +kernel
theorem dX9_start_28 : decode cX9_start 28 = .ok (.getfield 10, 3) := by decide +kernel
theorem dX9_start_31 : decode cX9_start 31 = .ok (.iconst 3, 1) := by decide +kernel
theorem dX9_start_32 : decode cX9_start 32 = .ok (.invokevirtual 97, 3) := by decide +kernel
theorem dX9_start_35 : decode cX9_start 35 = .ok (.invokevirtual 107, 3) := by decide +kernel
theorem dX9_start_38 : decode cX9_start 38 = .ok (.aload_n 0, 1) := by decide +kernel
theorem dX9_start_39 : decode cX9_start 39 = .ok (.getfield 10, 3) := by decide +kernel
theorem dX9_start_42 : decode cX9_start 42 = .ok (.iconst 1, 1) := by decide +kernel
theorem dX9_start_43 : decode cX9_start 43 = .ok (.invokevirtual 97, 3) := by decide +kernel
theorem dX9_start_46 : decode cX9_start 46 = .ok (.ireturn, 1) := by decide +kernel
theorem cw_X9_104 {R : Room} {s : State} {args : Array Value} (hts : ∀ w ∈ TB, w.before args s = true) (hR : rm_X8_isPlayable.frames + 1 ≤ R.frames ∧ 8 + (1 + 11) + rm_X8_isPlayable.locals ≤ R.locals) : CallW R s args RX9 RX8 104 yX8_isPlayable cX8_isPlayable 1 (some .boolean) (Cond.code yX8_isPlayable cX8_isPlayable 1 (some .boolean) :: TB) rm_X8_isPlayable 0 0 0 := cwV 0 hts (gV tb592 tb593 tb594 tb48 tb595) rfl rfl rfl ⟨rfl, by decide, by decide, by decide +kernel⟩ hR
theorem cw_X9_107 {R : Room} {s : State} {args : Array Value} (hts : ∀ w ∈ TB, w.before args s = true) (hR : rm_X6_begin.frames + 1 ≤ R.frames ∧ 8 + (3 + 11) + rm_X6_begin.locals ≤ R.locals) : CallW R s args RX9 RX6 107 yX6_begin cX6_begin 3 none (Cond.code yX6_begin cX6_begin 3 none :: TB) rm_X6_begin 0 0 2 := cwV 2 hts (gV tb596 tb597 tb598 tb51 tb599) rfl rfl rfl ⟨rfl, by decide, by decide, by decide +kernel⟩ hR
def f_X9_start (v1_mode v1_startThreshold v1_lastRung v1_lastChange v1_state v1_time v1_position v2_startUpTime v2_stallTime v2_playTime v2_stalls v2_abandoned v2_finished v2_switches : Int32) (v2_wasted v2_quality : Int64) (v3_segments v4_going v5_length v6_kept v7_segments v9_phases : Int32) (r10 : Nat → Int32) (v11_rungs : Int32) : Nat × Int32 × Int32 × Int32 × Int32 × Int32 × Int32 × Int32 × Int32 × Int32 × Int32 × Int32 × Int32 × Int32 × Int32 × Int32 × Int64 × Int64 × Int32 × Int32 × Int32 × Int32 × Int32 :=
  bnd (f_X9_requireNoSession v1_state) fun (k1 : Nat) =>
  if k1 = 0 then
    bnd (f_X9_requireState (f_X8_isPlayable v9_phases v11_rungs)) fun (k3 : Nat) =>
    if k3 = 0 then
      bnd21 (f_X6_begin (f_X8_valueOf r10 12) (f_X8_valueOf r10 3)) fun (y5 : Int32) (y6 : Int32) (y7 : Int32) (y8 : Int32) (y9 : Int32) (y10 : Int32) (y11 : Int32) (y12 : Int32) (y13 : Int32) (y14 : Int32) (y15 : Int32) (y16 : Int32) (y17 : Int32) (y18 : Int32) (z19 : Int64) (z20 : Int64) (y21 : Int32) (y22 : Int32) (y23 : Int32) (y24 : Int32) (y25 : Int32) =>
      (0, f_X8_valueOf r10 1, y5, y6, y7, y8, y9, y10, y11, y12, y13, y14, y15, y16, y17, y18, z19, z20, y21, y22, y23, y24, y25)
    else
      (k3, 0, v1_mode, v1_startThreshold, v1_lastRung, v1_lastChange, v1_state, v1_time, v1_position, v2_startUpTime, v2_stallTime, v2_playTime, v2_stalls, v2_abandoned, v2_finished, v2_switches, v2_wasted, v2_quality, v3_segments, v4_going, v5_length, v6_kept, v7_segments)
  else
    (k1, 0, v1_mode, v1_startThreshold, v1_lastRung, v1_lastChange, v1_state, v1_time, v1_position, v2_startUpTime, v2_stallTime, v2_playTime, v2_stalls, v2_abandoned, v2_finished, v2_switches, v2_wasted, v2_quality, v3_segments, v4_going, v5_length, v6_kept, v7_segments)
set_option maxHeartbeats 4000000 in
set_option maxRecDepth 100000 in
theorem c_X9_start (l : Launch) (hfl : l.stackTraces = false) (ga : Nat → Nat) (D : va_G) (cI cJ cC : ClassId) (h0 h1 h2 h3 h4 h5 h6 h7 h8 h9 h10 h11 kthis_scratch kthis_session_audio_rungs kthis_session_line_signs kthis_session_samples_bits kthis_session_samples_durations kthis_session_video_rungs kthis_stream_audio kthis_stream_plan_lengths kthis_stream_plan_rates kthis_stream_video_rates : Nat) (v1_mode v1_startThreshold v1_lastRung v1_lastChange v1_state v1_time v1_position v2_startUpTime v2_stallTime v2_playTime v2_stalls v2_abandoned v2_finished v2_switches : Int32) (v2_wasted v2_quality : Int64) (v3_segments v4_going v4_track v4_segment v4_rung v4_waiting v4_duration : Int32) (v4_bits v4_received : Int64) (v5_length v6_kept v7_segments v9_total v9_phases : Int32) (r10 : Nat → Int32) (v11_most v11_rungs : Int32) (sz : Nat)  (T : Nat × Int32 × Int32 × Int32 × Int32 × Int32 × Int32 × Int32 × Int32 × Int32 × Int32 × Int32 × Int32 × Int32 × Int32 × Int32 × Int64 × Int64 × Int32 × Int32 × Int32 × Int32 × Int32) (h : f_X9_start v1_mode v1_startThreshold v1_lastRung v1_lastChange v1_state v1_time v1_position v2_startUpTime v2_stallTime v2_playTime v2_stalls v2_abandoned v2_finished v2_switches v2_wasted v2_quality v3_segments v4_going v5_length v6_kept v7_segments v9_phases r10 v11_rungs = T) : vx_Met l yX9_start (Cond.code yX9_start cX9_start 1 (some .int) :: TB) rm_X9_start (PreX ga D cI cJ cC [(h0, .inr (9, [.ref h8, .ref h1, .ref kthis_scratch])), (h1, .inr (6, [.ref h8, .ref h7, .ref h3, .ref h6, .ref h4, .ref h2, .ref h5, .int v1_mode, .int v1_startThreshold, .int v1_lastRung, .int v1_lastChange, .int v1_state, .int v1_time, .int v1_position])), (h2, .inr (0, [.int v2_startUpTime, .int v2_stallTime, .int v2_playTime, .int v2_stalls, .int v2_abandoned, .int v2_finished, .int v2_switches, .long v2_wasted, .long v2_quality])), (h3, .inr (7, [.ref kthis_session_audio_rungs, .int v3_segments])), (h4, .inr (1, [.int v4_going, .int v4_track, .int v4_segment, .int v4_rung, .int v4_waiting, .int v4_duration, .long v4_bits, .long v4_received])), (h5, .inr (3, [.ref kthis_session_line_signs, .int v5_length])), (h6, .inr (5, [.ref kthis_session_samples_bits, .ref kthis_session_samples_durations, .int v6_kept])), (h7, .inr (7, [.ref kthis_session_video_rungs, .int v7_segments])), (h8, .inr (8, [.ref h10, .ref h11, .ref kthis_stream_audio, .ref h9])), (h9, .inr (4, [.ref kthis_stream_plan_lengths, .ref kthis_stream_plan_rates, .int v9_total, .int v9_phases])), (h10, .inl (cI, 15, .inl r10)), (h11, .inr (2, [.ref kthis_stream_video_rates, .int v11_most, .int v11_rungs]))] sz [.ref h0]) (QX T.1 (some (.int T.2.1)) D [(h0, .inr (9, [.ref h8, .ref h1, .ref kthis_scratch])), (h1, .inr (6, [.ref h8, .ref h7, .ref h3, .ref h6, .ref h4, .ref h2, .ref h5, .int T.2.2.1, .int T.2.2.2.1, .int T.2.2.2.2.1, .int T.2.2.2.2.2.1, .int T.2.2.2.2.2.2.1, .int T.2.2.2.2.2.2.2.1, .int T.2.2.2.2.2.2.2.2.1])), (h2, .inr (0, [.int T.2.2.2.2.2.2.2.2.2.1, .int T.2.2.2.2.2.2.2.2.2.2.1, .int T.2.2.2.2.2.2.2.2.2.2.2.1, .int T.2.2.2.2.2.2.2.2.2.2.2.2.1, .int T.2.2.2.2.2.2.2.2.2.2.2.2.2.1, .int T.2.2.2.2.2.2.2.2.2.2.2.2.2.2.1, .int T.2.2.2.2.2.2.2.2.2.2.2.2.2.2.2.1, .long T.2.2.2.2.2.2.2.2.2.2.2.2.2.2.2.2.1, .long T.2.2.2.2.2.2.2.2.2.2.2.2.2.2.2.2.2.1])), (h3, .inr (7, [.ref kthis_session_audio_rungs, .int T.2.2.2.2.2.2.2.2.2.2.2.2.2.2.2.2.2.2.1])), (h4, .inr (1, [.int T.2.2.2.2.2.2.2.2.2.2.2.2.2.2.2.2.2.2.2.1, .int v4_track, .int v4_segment, .int v4_rung, .int v4_waiting, .int v4_duration, .long v4_bits, .long v4_received])), (h5, .inr (3, [.ref kthis_session_line_signs, .int T.2.2.2.2.2.2.2.2.2.2.2.2.2.2.2.2.2.2.2.2.1])), (h6, .inr (5, [.ref kthis_session_samples_bits, .ref kthis_session_samples_durations, .int T.2.2.2.2.2.2.2.2.2.2.2.2.2.2.2.2.2.2.2.2.2.1])), (h7, .inr (7, [.ref kthis_session_video_rungs, .int T.2.2.2.2.2.2.2.2.2.2.2.2.2.2.2.2.2.2.2.2.2.2])), (h8, .inr (8, [.ref h10, .ref h11, .ref kthis_stream_audio, .ref h9])), (h9, .inr (4, [.ref kthis_stream_plan_lengths, .ref kthis_stream_plan_rates, .int v9_total, .int v9_phases])), (h10, .inl (cI, 15, .inl r10)), (h11, .inr (2, [.ref kthis_stream_video_rates, .int v11_most, .int v11_rungs]))] (va_A [(h0, .inr (9, [.ref h8, .ref h1, .ref kthis_scratch])), (h1, .inr (6, [.ref h8, .ref h7, .ref h3, .ref h6, .ref h4, .ref h2, .ref h5, .int v1_mode, .int v1_startThreshold, .int v1_lastRung, .int v1_lastChange, .int v1_state, .int v1_time, .int v1_position])), (h2, .inr (0, [.int v2_startUpTime, .int v2_stallTime, .int v2_playTime, .int v2_stalls, .int v2_abandoned, .int v2_finished, .int v2_switches, .long v2_wasted, .long v2_quality])), (h3, .inr (7, [.ref kthis_session_audio_rungs, .int v3_segments])), (h4, .inr (1, [.int v4_going, .int v4_track, .int v4_segment, .int v4_rung, .int v4_waiting, .int v4_duration, .long v4_bits, .long v4_received])), (h5, .inr (3, [.ref kthis_session_line_signs, .int v5_length])), (h6, .inr (5, [.ref kthis_session_samples_bits, .ref kthis_session_samples_durations, .int v6_kept])), (h7, .inr (7, [.ref kthis_session_video_rungs, .int v7_segments])), (h8, .inr (8, [.ref h10, .ref h11, .ref kthis_stream_audio, .ref h9])), (h9, .inr (4, [.ref kthis_stream_plan_lengths, .ref kthis_stream_plan_rates, .int v9_total, .int v9_phases])), (h10, .inl (cI, 15, .inl r10)), (h11, .inr (2, [.ref kthis_stream_video_rates, .int v11_most, .int v11_rungs]))] sz)) (XX T.1 D [(h0, .inr (9, [.ref h8, .ref h1, .ref kthis_scratch])), (h1, .inr (6, [.ref h8, .ref h7, .ref h3, .ref h6, .ref h4, .ref h2, .ref h5, .int T.2.2.1, .int T.2.2.2.1, .int T.2.2.2.2.1, .int T.2.2.2.2.2.1, .int T.2.2.2.2.2.2.1, .int T.2.2.2.2.2.2.2.1, .int T.2.2.2.2.2.2.2.2.1])), (h2, .inr (0, [.int T.2.2.2.2.2.2.2.2.2.1, .int T.2.2.2.2.2.2.2.2.2.2.1, .int T.2.2.2.2.2.2.2.2.2.2.2.1, .int T.2.2.2.2.2.2.2.2.2.2.2.2.1, .int T.2.2.2.2.2.2.2.2.2.2.2.2.2.1, .int T.2.2.2.2.2.2.2.2.2.2.2.2.2.2.1, .int T.2.2.2.2.2.2.2.2.2.2.2.2.2.2.2.1, .long T.2.2.2.2.2.2.2.2.2.2.2.2.2.2.2.2.1, .long T.2.2.2.2.2.2.2.2.2.2.2.2.2.2.2.2.2.1])), (h3, .inr (7, [.ref kthis_session_audio_rungs, .int T.2.2.2.2.2.2.2.2.2.2.2.2.2.2.2.2.2.2.1])), (h4, .inr (1, [.int T.2.2.2.2.2.2.2.2.2.2.2.2.2.2.2.2.2.2.2.1, .int v4_track, .int v4_segment, .int v4_rung, .int v4_waiting, .int v4_duration, .long v4_bits, .long v4_received])), (h5, .inr (3, [.ref kthis_session_line_signs, .int T.2.2.2.2.2.2.2.2.2.2.2.2.2.2.2.2.2.2.2.2.1])), (h6, .inr (5, [.ref kthis_session_samples_bits, .ref kthis_session_samples_durations, .int T.2.2.2.2.2.2.2.2.2.2.2.2.2.2.2.2.2.2.2.2.2.1])), (h7, .inr (7, [.ref kthis_session_video_rungs, .int T.2.2.2.2.2.2.2.2.2.2.2.2.2.2.2.2.2.2.2.2.2.2])), (h8, .inr (8, [.ref h10, .ref h11, .ref kthis_stream_audio, .ref h9])), (h9, .inr (4, [.ref kthis_stream_plan_lengths, .ref kthis_stream_plan_rates, .int v9_total, .int v9_phases])), (h10, .inl (cI, 15, .inl r10)), (h11, .inr (2, [.ref kthis_stream_video_rates, .int v11_most, .int v11_rungs]))] (va_A [(h0, .inr (9, [.ref h8, .ref h1, .ref kthis_scratch])), (h1, .inr (6, [.ref h8, .ref h7, .ref h3, .ref h6, .ref h4, .ref h2, .ref h5, .int v1_mode, .int v1_startThreshold, .int v1_lastRung, .int v1_lastChange, .int v1_state, .int v1_time, .int v1_position])), (h2, .inr (0, [.int v2_startUpTime, .int v2_stallTime, .int v2_playTime, .int v2_stalls, .int v2_abandoned, .int v2_finished, .int v2_switches, .long v2_wasted, .long v2_quality])), (h3, .inr (7, [.ref kthis_session_audio_rungs, .int v3_segments])), (h4, .inr (1, [.int v4_going, .int v4_track, .int v4_segment, .int v4_rung, .int v4_waiting, .int v4_duration, .long v4_bits, .long v4_received])), (h5, .inr (3, [.ref kthis_session_line_signs, .int v5_length])), (h6, .inr (5, [.ref kthis_session_samples_bits, .ref kthis_session_samples_durations, .int v6_kept])), (h7, .inr (7, [.ref kthis_session_video_rungs, .int v7_segments])), (h8, .inr (8, [.ref h10, .ref h11, .ref kthis_stream_audio, .ref h9])), (h9, .inr (4, [.ref kthis_stream_plan_lengths, .ref kthis_stream_plan_rates, .int v9_total, .int v9_phases])), (h10, .inl (cI, 15, .inl r10)), (h11, .inr (2, [.ref kthis_stream_video_rates, .int v11_most, .int v11_rungs]))] sz)) 2 12 (va_A [(h0, .inr (9, [.ref h8, .ref h1, .ref kthis_scratch])), (h1, .inr (6, [.ref h8, .ref h7, .ref h3, .ref h6, .ref h4, .ref h2, .ref h5, .int v1_mode, .int v1_startThreshold, .int v1_lastRung, .int v1_lastChange, .int v1_state, .int v1_time, .int v1_position])), (h2, .inr (0, [.int v2_startUpTime, .int v2_stallTime, .int v2_playTime, .int v2_stalls, .int v2_abandoned, .int v2_finished, .int v2_switches, .long v2_wasted, .long v2_quality])), (h3, .inr (7, [.ref kthis_session_audio_rungs, .int v3_segments])), (h4, .inr (1, [.int v4_going, .int v4_track, .int v4_segment, .int v4_rung, .int v4_waiting, .int v4_duration, .long v4_bits, .long v4_received])), (h5, .inr (3, [.ref kthis_session_line_signs, .int v5_length])), (h6, .inr (5, [.ref kthis_session_samples_bits, .ref kthis_session_samples_durations, .int v6_kept])), (h7, .inr (7, [.ref kthis_session_video_rungs, .int v7_segments])), (h8, .inr (8, [.ref h10, .ref h11, .ref kthis_stream_audio, .ref h9])), (h9, .inr (4, [.ref kthis_stream_plan_lengths, .ref kthis_stream_plan_rates, .int v9_total, .int v9_phases])), (h10, .inl (cI, 15, .inl r10)), (h11, .inr (2, [.ref kthis_stream_video_rates, .int v11_most, .int v11_rungs]))] sz) := by
  refine metX (own := RX9) (by decide) rfl (Nat.le_of_ble_eq_true rfl) ?_
  intro p e s m below meth c S hr hlk hnt hP hK A hAe hD hA hS hG ls hl
  clear hAe
  have hx := S.1
  have hb := S.2.1
  have hl : lv_has ls 1 [(0, .ref h0)] := hl
  refine lv_aload_n hx hb dX9_start_0 rfl (lv_at hl 0 rfl) ?_
  obtain ⟨k1, e_k1⟩ : ∃ a0, f_X9_requireNoSession v1_state = a0 := ⟨_, rfl⟩
  have h := bnd_eq e_k1 h
  refine xcV (pc1 := 4) (rest := []) (st1 := []) (wr := [(h2, .inr (0, [.int v2_startUpTime, .int v2_stallTime, .int v2_playTime, .int v2_stalls, .int v2_abandoned, .int v2_finished, .int v2_switches, .long v2_wasted, .long v2_quality])), (h3, .inr (7, [.ref kthis_session_audio_rungs, .int v3_segments])), (h4, .inr (1, [.int v4_going, .int v4_track, .int v4_segment, .int v4_rung, .int v4_waiting, .int v4_duration, .long v4_bits, .long v4_received])), (h5, .inr (3, [.ref kthis_session_line_signs, .int v5_length])), (h6, .inr (5, [.ref kthis_session_samples_bits, .ref kthis_session_samples_durations, .int v6_kept])), (h7, .inr (7, [.ref kthis_session_video_rungs, .int v7_segments])), (h8, .inr (8, [.ref h10, .ref h11, .ref kthis_stream_audio, .ref h9])), (h9, .inr (4, [.ref kthis_stream_plan_lengths, .ref kthis_stream_plan_rates, .int v9_total, .int v9_phases])), (h10, .inl (cI, 15, .inl r10)), (h11, .inr (2, [.ref kthis_stream_video_rates, .int v11_most, .int v11_rungs]))]) (cells1 := 1) (slots1 := 6) S (c_X9_requireNoSession l hfl ga D cI cJ cC h0 h1 h8 kthis_scratch h7 h3 h6 h4 h2 h5 v1_mode v1_startThreshold v1_lastRung v1_lastChange v1_state v1_time v1_position s.heap.size  k1 e_k1) (cw_X9_44 S.2.2.2.2 ⟨Nat.le_of_ble_eq_true rfl, Nat.le_of_ble_eq_true rfl⟩) hK hP hD hS hA hG [0, 1] [2, 3, 4, 5, 6, 7, 8, 9, 10, 11] rfl rfl rfl (by decide) (by decide) (by decide) rfl rfl rfl rfl hl.1 rfl (Nat.le_of_ble_eq_true rfl) ⟨Nat.le_of_ble_eq_true rfl, Nat.le_of_ble_eq_true rfl⟩ rfl rfl rfl rfl dX9_start_1 (fun c2 H locs ce q9 hP hD hS hce hcv hcl => ?_) (fun c2 H locs hP hD hS => ?_)
  · have h := iteN c2 h
    have hP : va_P D vwCl [(h2, .inr (0, [.int v2_startUpTime, .int v2_stallTime, .int v2_playTime, .int v2_stalls, .int v2_abandoned, .int v2_finished, .int v2_switches, .long v2_wasted, .long v2_quality])), (h3, .inr (7, [.ref kthis_session_audio_rungs, .int v3_segments])), (h4, .inr (1, [.int v4_going, .int v4_track, .int v4_segment, .int v4_rung, .int v4_waiting, .int v4_duration, .long v4_bits, .long v4_received])), (h5, .inr (3, [.ref kthis_session_line_signs, .int v5_length])), (h6, .inr (5, [.ref kthis_session_samples_bits, .ref kthis_session_samples_durations, .int v6_kept])), (h7, .inr (7, [.ref kthis_session_video_rungs, .int v7_segments])), (h8, .inr (8, [.ref h10, .ref h11, .ref kthis_stream_audio, .ref h9])), (h9, .inr (4, [.ref kthis_stream_plan_lengths, .ref kthis_stream_plan_rates, .int v9_total, .int v9_phases])), (h10, .inl (cI, 15, .inl r10)), (h11, .inr (2, [.ref kthis_stream_video_rates, .int v11_most, .int v11_rungs])), (h0, .inr (9, [.ref h8, .ref h1, .ref kthis_scratch])), (h1, .inr (6, [.ref h8, .ref h7, .ref h3, .ref h6, .ref h4, .ref h2, .ref h5, .int v1_mode, .int v1_startThreshold, .int v1_lastRung, .int v1_lastChange, .int v1_state, .int v1_time, .int v1_position]))] H := hP
    have hD : va_D A [(h2, .inr (0, [.int v2_startUpTime, .int v2_stallTime, .int v2_playTime, .int v2_stalls, .int v2_abandoned, .int v2_finished, .int v2_switches, .long v2_wasted, .long v2_quality])), (h3, .inr (7, [.ref kthis_session_audio_rungs, .int v3_segments])), (h4, .inr (1, [.int v4_going, .int v4_track, .int v4_segment, .int v4_rung, .int v4_waiting, .int v4_duration, .long v4_bits, .long v4_received])), (h5, .inr (3, [.ref kthis_session_line_signs, .int v5_length])), (h6, .inr (5, [.ref kthis_session_samples_bits, .ref kthis_session_samples_durations, .int v6_kept])), (h7, .inr (7, [.ref kthis_session_video_rungs, .int v7_segments])), (h8, .inr (8, [.ref h10, .ref h11, .ref kthis_stream_audio, .ref h9])), (h9, .inr (4, [.ref kthis_stream_plan_lengths, .ref kthis_stream_plan_rates, .int v9_total, .int v9_phases])), (h10, .inl (cI, 15, .inl r10)), (h11, .inr (2, [.ref kthis_stream_video_rates, .int v11_most, .int v11_rungs])), (h0, .inr (9, [.ref h8, .ref h1, .ref kthis_scratch])), (h1, .inr (6, [.ref h8, .ref h7, .ref h3, .ref h6, .ref h4, .ref h2, .ref h5, .int v1_mode, .int v1_startThreshold, .int v1_lastRung, .int v1_lastChange, .int v1_state, .int v1_time, .int v1_position]))] := hD
    subst h
    exact xout hnt hlk c2 (hP.sub [10, 11, 0, 1, 2, 3, 4, 5, 6, 7, 8, 9] rfl) (hD.sub [10, 11, 0, 1, 2, 3, 4, 5, 6, 7, 8, 9] (by decide) rfl) hS hce hcv hcl (Nat.le_of_ble_eq_true rfl) (Nat.le_of_ble_eq_true rfl)
  · have h := iteP c2 h
    have hP : va_P D vwCl [(h2, .inr (0, [.int v2_startUpTime, .int v2_stallTime, .int v2_playTime, .int v2_stalls, .int v2_abandoned, .int v2_finished, .int v2_switches, .long v2_wasted, .long v2_quality])), (h3, .inr (7, [.ref kthis_session_audio_rungs, .int v3_segments])), (h4, .inr (1, [.int v4_going, .int v4_track, .int v4_segment, .int v4_rung, .int v4_waiting, .int v4_duration, .long v4_bits, .long v4_received])), (h5, .inr (3, [.ref kthis_session_line_signs, .int v5_length])), (h6, .inr (5, [.ref kthis_session_samples_bits, .ref kthis_session_samples_durations, .int v6_kept])), (h7, .inr (7, [.ref kthis_session_video_rungs, .int v7_segments])), (h8, .inr (8, [.ref h10, .ref h11, .ref kthis_stream_audio, .ref h9])), (h9, .inr (4, [.ref kthis_stream_plan_lengths, .ref kthis_stream_plan_rates, .int v9_total, .int v9_phases])), (h10, .inl (cI, 15, .inl r10)), (h11, .inr (2, [.ref kthis_stream_video_rates, .int v11_most, .int v11_rungs])), (h0, .inr (9, [.ref h8, .ref h1, .ref kthis_scratch])), (h1, .inr (6, [.ref h8, .ref h7, .ref h3, .ref h6, .ref h4, .ref h2, .ref h5, .int v1_mode, .int v1_startThreshold, .int v1_lastRung, .int v1_lastChange, .int v1_state, .int v1_time, .int v1_position]))] H := hP
    have hD : va_D A [(h2, .inr (0, [.int v2_startUpTime, .int v2_stallTime, .int v2_playTime, .int v2_stalls, .int v2_abandoned, .int v2_finished, .int v2_switches, .long v2_wasted, .long v2_quality])), (h3, .inr (7, [.ref kthis_session_audio_rungs, .int v3_segments])), (h4, .inr (1, [.int v4_going, .int v4_track, .int v4_segment, .int v4_rung, .int v4_waiting, .int v4_duration, .long v4_bits, .long v4_received])), (h5, .inr (3, [.ref kthis_session_line_signs, .int v5_length])), (h6, .inr (5, [.ref kthis_session_samples_bits, .ref kthis_session_samples_durations, .int v6_kept])), (h7, .inr (7, [.ref kthis_session_video_rungs, .int v7_segments])), (h8, .inr (8, [.ref h10, .ref h11, .ref kthis_stream_audio, .ref h9])), (h9, .inr (4, [.ref kthis_stream_plan_lengths, .ref kthis_stream_plan_rates, .int v9_total, .int v9_phases])), (h10, .inl (cI, 15, .inl r10)), (h11, .inr (2, [.ref kthis_stream_video_rates, .int v11_most, .int v11_rungs])), (h0, .inr (9, [.ref h8, .ref h1, .ref kthis_scratch])), (h1, .inr (6, [.ref h8, .ref h7, .ref h3, .ref h6, .ref h4, .ref h2, .ref h5, .int v1_mode, .int v1_startThreshold, .int v1_lastRung, .int v1_lastChange, .int v1_state, .int v1_time, .int v1_position]))] := hD
    refine lv_aload_n hx hb dX9_start_4 rfl (lv_at hl 0 rfl) ?_
    refine gf_X9_10 (v := .ref h8) S hK hP 10 rfl rfl dX9_start_5 ?_
    refine rdV (pc1 := 11) (rest := []) (st1 := [.int (f_X8_isPlayable v9_phases v11_rungs)]) S (c_X8_isPlayable l D cI cJ cC h8 h9 h11 h10 kthis_stream_audio kthis_stream_plan_lengths kthis_stream_plan_rates kthis_stream_video_rates v9_total v9_phases v11_most v11_rungs  _ rfl) (cw_X9_104 S.2.2.2.2 ⟨Nat.le_of_ble_eq_true rfl, Nat.le_of_ble_eq_true rfl⟩) hK (hP.sub [6, 7, 9] rfl) rfl rfl rfl rfl hl.1 rfl (Nat.le_of_ble_eq_true rfl) ⟨Nat.le_of_ble_eq_true rfl, Nat.le_of_ble_eq_true rfl⟩ rfl rfl dX9_start_8 ?_
    obtain ⟨k3, e_k3⟩ : ∃ a0, f_X9_requireState (f_X8_isPlayable v9_phases v11_rungs) = a0 := ⟨_, rfl⟩
    have h := bnd_eq e_k3 h
    refine xcS (pc1 := 14) (rest := []) (st1 := []) (wr := [(h2, .inr (0, [.int v2_startUpTime, .int v2_stallTime, .int v2_playTime, .int v2_stalls, .int v2_abandoned, .int v2_finished, .int v2_switches, .long v2_wasted, .long v2_quality])), (h3, .inr (7, [.ref kthis_session_audio_rungs, .int v3_segments])), (h4, .inr (1, [.int v4_going, .int v4_track, .int v4_segment, .int v4_rung, .int v4_waiting, .int v4_duration, .long v4_bits, .long v4_received])), (h5, .inr (3, [.ref kthis_session_line_signs, .int v5_length])), (h6, .inr (5, [.ref kthis_session_samples_bits, .ref kthis_session_samples_durations, .int v6_kept])), (h7, .inr (7, [.ref kthis_session_video_rungs, .int v7_segments])), (h8, .inr (8, [.ref h10, .ref h11, .ref kthis_stream_audio, .ref h9])), (h9, .inr (4, [.ref kthis_stream_plan_lengths, .ref kthis_stream_plan_rates, .int v9_total, .int v9_phases])), (h10, .inl (cI, 15, .inl r10)), (h11, .inr (2, [.ref kthis_stream_video_rates, .int v11_most, .int v11_rungs])), (h0, .inr (9, [.ref h8, .ref h1, .ref kthis_scratch])), (h1, .inr (6, [.ref h8, .ref h7, .ref h3, .ref h6, .ref h4, .ref h2, .ref h5, .int v1_mode, .int v1_startThreshold, .int v1_lastRung, .int v1_lastChange, .int v1_state, .int v1_time, .int v1_position]))]) (cells1 := 2) (slots1 := 12) S (c_X9_requireState l hfl ga D cI cJ cC  H.size (f_X8_isPlayable v9_phases v11_rungs) k3 e_k3) (cw_X9_66 S.2.2.2.2 ⟨Nat.le_of_ble_eq_true rfl, Nat.le_of_ble_eq_true rfl⟩) hK hP hD hS hA hG [] [0, 1, 2, 3, 4, 5, 6, 7, 8, 9, 10, 11] rfl rfl rfl (by decide) (by decide) (by decide) rfl hl.1 rfl (Nat.le_of_ble_eq_true rfl) ⟨Nat.le_of_ble_eq_true rfl, Nat.le_of_ble_eq_true rfl⟩ rfl rfl rfl rfl dX9_start_11 (fun c4 H locs ce q9 hP hD hS hce hcv hcl => ?_) (fun c4 H locs hP hD hS => ?_)
    · have h := iteN c4 h
      have hP : va_P D vwCl [(h2, .inr (0, [.int v2_startUpTime, .int v2_stallTime, .int v2_playTime, .int v2_stalls, .int v2_abandoned, .int v2_finished, .int v2_switches, .long v2_wasted, .long v2_quality])), (h3, .inr (7, [.ref kthis_session_audio_rungs, .int v3_segments])), (h4, .inr (1, [.int v4_going, .int v4_track, .int v4_segment, .int v4_rung, .int v4_waiting, .int v4_duration, .long v4_bits, .long v4_received])), (h5, .inr (3, [.ref kthis_session_line_signs, .int v5_length])), (h6, .inr (5, [.ref kthis_session_samples_bits, .ref kthis_session_samples_durations, .int v6_kept])), (h7, .inr (7, [.ref kthis_session_video_rungs, .int v7_segments])), (h8, .inr (8, [.ref h10, .ref h11, .ref kthis_stream_audio, .ref h9])), (h9, .inr (4, [.ref kthis_stream_plan_lengths, .ref kthis_stream_plan_rates, .int v9_total, .int v9_phases])), (h10, .inl (cI, 15, .inl r10)), (h11, .inr (2, [.ref kthis_stream_video_rates, .int v11_most, .int v11_rungs])), (h0, .inr (9, [.ref h8, .ref h1, .ref kthis_scratch])), (h1, .inr (6, [.ref h8, .ref h7, .ref h3, .ref h6, .ref h4, .ref h2, .ref h5, .int v1_mode, .int v1_startThreshold, .int v1_lastRung, .int v1_lastChange, .int v1_state, .int v1_time, .int v1_position]))] H := hP
      have hD : va_D A [(h2, .inr (0, [.int v2_startUpTime, .int v2_stallTime, .int v2_playTime, .int v2_stalls, .int v2_abandoned, .int v2_finished, .int v2_switches, .long v2_wasted, .long v2_quality])), (h3, .inr (7, [.ref kthis_session_audio_rungs, .int v3_segments])), (h4, .inr (1, [.int v4_going, .int v4_track, .int v4_segment, .int v4_rung, .int v4_waiting, .int v4_duration, .long v4_bits, .long v4_received])), (h5, .inr (3, [.ref kthis_session_line_signs, .int v5_length])), (h6, .inr (5, [.ref kthis_session_samples_bits, .ref kthis_session_samples_durations, .int v6_kept])), (h7, .inr (7, [.ref kthis_session_video_rungs, .int v7_segments])), (h8, .inr (8, [.ref h10, .ref h11, .ref kthis_stream_audio, .ref h9])), (h9, .inr (4, [.ref kthis_stream_plan_lengths, .ref kthis_stream_plan_rates, .int v9_total, .int v9_phases])), (h10, .inl (cI, 15, .inl r10)), (h11, .inr (2, [.ref kthis_stream_video_rates, .int v11_most, .int v11_rungs])), (h0, .inr (9, [.ref h8, .ref h1, .ref kthis_scratch])), (h1, .inr (6, [.ref h8, .ref h7, .ref h3, .ref h6, .ref h4, .ref h2, .ref h5, .int v1_mode, .int v1_startThreshold, .int v1_lastRung, .int v1_lastChange, .int v1_state, .int v1_time, .int v1_position]))] := hD
      subst h
      exact xout hnt hlk c4 (hP.sub [10, 11, 0, 1, 2, 3, 4, 5, 6, 7, 8, 9] rfl) (hD.sub [10, 11, 0, 1, 2, 3, 4, 5, 6, 7, 8, 9] (by decide) rfl) hS hce hcv hcl (Nat.le_of_ble_eq_true rfl) (Nat.le_of_ble_eq_true rfl)
    · have h := iteP c4 h
      have hP : va_P D vwCl [(h2, .inr (0, [.int v2_startUpTime, .int v2_stallTime, .int v2_playTime, .int v2_stalls, .int v2_abandoned, .int v2_finished, .int v2_switches, .long v2_wasted, .long v2_quality])), (h3, .inr (7, [.ref kthis_session_audio_rungs, .int v3_segments])), (h4, .inr (1, [.int v4_going, .int v4_track, .int v4_segment, .int v4_rung, .int v4_waiting, .int v4_duration, .long v4_bits, .long v4_received])), (h5, .inr (3, [.ref kthis_session_line_signs, .int v5_length])), (h6, .inr (5, [.ref kthis_session_samples_bits, .ref kthis_session_samples_durations, .int v6_kept])), (h7, .inr (7, [.ref kthis_session_video_rungs, .int v7_segments])), (h8, .inr (8, [.ref h10, .ref h11, .ref kthis_stream_audio, .ref h9])), (h9, .inr (4, [.ref kthis_stream_plan_lengths, .ref kthis_stream_plan_rates, .int v9_total, .int v9_phases])), (h10, .inl (cI, 15, .inl r10)), (h11, .inr (2, [.ref kthis_stream_video_rates, .int v11_most, .int v11_rungs])), (h0, .inr (9, [.ref h8, .ref h1, .ref kthis_scratch])), (h1, .inr (6, [.ref h8, .ref h7, .ref h3, .ref h6, .ref h4, .ref h2, .ref h5, .int v1_mode, .int v1_startThreshold, .int v1_lastRung, .int v1_lastChange, .int v1_state, .int v1_time, .int v1_position]))] H := hP
      have hD : va_D A [(h2, .inr (0, [.int v2_startUpTime, .int v2_stallTime, .int v2_playTime, .int v2_stalls, .int v2_abandoned, .int v2_finished, .int v2_switches, .long v2_wasted, .long v2_quality])), (h3, .inr (7, [.ref kthis_session_audio_rungs, .int v3_segments])), (h4, .inr (1, [.int v4_going, .int v4_track, .int v4_segment, .int v4_rung, .int v4_waiting, .int v4_duration, .long v4_bits, .long v4_received])), (h5, .inr (3, [.ref kthis_session_line_signs, .int v5_length])), (h6, .inr (5, [.ref kthis_session_samples_bits, .ref kthis_session_samples_durations, .int v6_kept])), (h7, .inr (7, [.ref kthis_session_video_rungs, .int v7_segments])), (h8, .inr (8, [.ref h10, .ref h11, .ref kthis_stream_audio, .ref h9])), (h9, .inr (4, [.ref kthis_stream_plan_lengths, .ref kthis_stream_plan_rates, .int v9_total, .int v9_phases])), (h10, .inl (cI, 15, .inl r10)), (h11, .inr (2, [.ref kthis_stream_video_rates, .int v11_most, .int v11_rungs])), (h0, .inr (9, [.ref h8, .ref h1, .ref kthis_scratch])), (h1, .inr (6, [.ref h8, .ref h7, .ref h3, .ref h6, .ref h4, .ref h2, .ref h5, .int v1_mode, .int v1_startThreshold, .int v1_lastRung, .int v1_lastChange, .int v1_state, .int v1_time, .int v1_position]))] := hD
      refine lv_aload_n hx hb dX9_start_14 rfl (lv_at hl 0 rfl) ?_
      refine gf_X9_21 (v := .ref h1) S hK hP 10 rfl rfl dX9_start_15 ?_
      refine lv_aload_n hx hb dX9_start_18 rfl (lv_at hl 0 rfl) ?_
      refine gf_X9_10 (v := .ref h8) S hK hP 10 rfl rfl dX9_start_19 ?_
      refine lv_bipush (v := 12) hx hb dX9_start_22 lb_12 ?_
      refine rdV (pc1 := 27) (rest := [.ref h1]) (st1 := [.int (f_X8_valueOf r10 12), .ref h1]) S (c_X8_valueOf l D cI cJ cC h8 h10 h11 kthis_stream_audio h9 r10 12 _ rfl) (cw_X9_97 S.2.2.2.2 ⟨Nat.le_of_ble_eq_true rfl, Nat.le_of_ble_eq_true rfl⟩) hK (hP.sub [6, 8] rfl) rfl rfl rfl rfl hl.1 rfl (Nat.le_of_ble_eq_true rfl) ⟨Nat.le_of_ble_eq_true rfl, Nat.le_of_ble_eq_true rfl⟩ rfl rfl dX9_start_24 ?_
      refine lv_aload_n hx hb dX9_start_27 rfl (lv_at hl 0 rfl) ?_
      refine gf_X9_10 (v := .ref h8) S hK hP 10 rfl rfl dX9_start_28 ?_
      refine lv_iconst (v := 3) hx hb dX9_start_31 li_3 ?_
      refine rdV (pc1 := 35) (rest := [.int (f_X8_valueOf r10 12), .ref h1]) (st1 := [.int (f_X8_valueOf r10 3), .int (f_X8_valueOf r10 12), .ref h1]) S (c_X8_valueOf l D cI cJ cC h8 h10 h11 kthis_stream_audio h9 r10 3 _ rfl) (cw_X9_97 S.2.2.2.2 ⟨Nat.le_of_ble_eq_true rfl, Nat.le_of_ble_eq_true rfl⟩) hK (hP.sub [6, 8] rfl) rfl rfl rfl rfl hl.1 rfl (Nat.le_of_ble_eq_true rfl) ⟨Nat.le_of_ble_eq_true rfl, Nat.le_of_ble_eq_true rfl⟩ rfl rfl dX9_start_32 ?_
      obtain ⟨y5, y6, y7, y8, y9, y10, y11, y12, y13, y14, y15, y16, y17, y18, z19, z20, y21, y22, y23, y24, y25, e_y5⟩ : ∃ a0 a1 a2 a3 a4 a5 a6 a7 a8 a9 a10 a11 a12 a13 a14 a15 a16 a17 a18 a19 a20, f_X6_begin (f_X8_valueOf r10 12) (f_X8_valueOf r10 3) = (a0, a1, a2, a3, a4, a5, a6, a7, a8, a9, a10, a11, a12, a13, a14, a15, a16, a17, a18, a19, a20) := ⟨_, _, _, _, _, _, _, _, _, _, _, _, _, _, _, _, _, _, _, _, _, rfl⟩
      have h := bnd21_eq e_y5 h
      refine wrV (pc1 := 38) (rest := []) (st1 := []) (wr := [(h8, .inr (8, [.ref h10, .ref h11, .ref kthis_stream_audio, .ref h9])), (h9, .inr (4, [.ref kthis_stream_plan_lengths, .ref kthis_stream_plan_rates, .int v9_total, .int v9_phases])), (h10, .inl (cI, 15, .inl r10)), (h11, .inr (2, [.ref kthis_stream_video_rates, .int v11_most, .int v11_rungs])), (h0, .inr (9, [.ref h8, .ref h1, .ref kthis_scratch]))]) S (c_X6_begin l D cI cJ cC h1 h2 h3 h4 h5 h6 h7 h8 kthis_session_audio_rungs kthis_session_line_signs kthis_session_samples_bits kthis_session_samples_durations kthis_session_video_rungs v1_mode v1_startThreshold v1_lastRung v1_lastChange v1_state v1_time v1_position v2_startUpTime v2_stallTime v2_playTime v2_stalls v2_abandoned v2_finished v2_switches v2_wasted v2_quality v3_segments v4_going v4_track v4_segment v4_rung v4_waiting v4_duration v4_bits v4_received v5_length v6_kept v7_segments H.size (f_X8_valueOf r10 12) (f_X8_valueOf r10 3) (y5, y6, y7, y8, y9, y10, y11, y12, y13, y14, y15, y16, y17, y18, z19, z20, y21, y22, y23, y24, y25) e_y5) (cw_X9_107 S.2.2.2.2 ⟨Nat.le_of_ble_eq_true rfl, Nat.le_of_ble_eq_true rfl⟩) hK hP hD hS hA [11, 0, 1, 2, 3, 4, 5] [6, 7, 8, 9, 10] rfl rfl rfl (by decide) (by decide) (by decide) rfl rfl rfl rfl hl.1 rfl (Nat.le_of_ble_eq_true rfl) ⟨Nat.le_of_ble_eq_true rfl, Nat.le_of_ble_eq_true rfl⟩ rfl rfl dX9_start_35 (fun H locs hP hD hS => ?_)
      have hP : va_P D vwCl [(h8, .inr (8, [.ref h10, .ref h11, .ref kthis_stream_audio, .ref h9])), (h9, .inr (4, [.ref kthis_stream_plan_lengths, .ref kthis_stream_plan_rates, .int v9_total, .int v9_phases])), (h10, .inl (cI, 15, .inl r10)), (h11, .inr (2, [.ref kthis_stream_video_rates, .int v11_most, .int v11_rungs])), (h0, .inr (9, [.ref h8, .ref h1, .ref kthis_scratch])), (h1, .inr (6, [.ref h8, .ref h7, .ref h3, .ref h6, .ref h4, .ref h2, .ref h5, .int y5, .int y6, .int y7, .int y8, .int y9, .int y10, .int y11])), (h2, .inr (0, [.int y12, .int y13, .int y14, .int y15, .int y16, .int y17, .int y18, .long z19, .long z20])), (h3, .inr (7, [.ref kthis_session_audio_rungs, .int y21])), (h4, .inr (1, [.int y22, .int v4_track, .int v4_segment, .int v4_rung, .int v4_waiting, .int v4_duration, .long v4_bits, .long v4_received])), (h5, .inr (3, [.ref kthis_session_line_signs, .int y23])), (h6, .inr (5, [.ref kthis_session_samples_bits, .ref kthis_session_samples_durations, .int y24])), (h7, .inr (7, [.ref kthis_session_video_rungs, .int y25]))] H := hP
      have hD : va_D A [(h8, .inr (8, [.ref h10, .ref h11, .ref kthis_stream_audio, .ref h9])), (h9, .inr (4, [.ref kthis_stream_plan_lengths, .ref kthis_stream_plan_rates, .int v9_total, .int v9_phases])), (h10, .inl (cI, 15, .inl r10)), (h11, .inr (2, [.ref kthis_stream_video_rates, .int v11_most, .int v11_rungs])), (h0, .inr (9, [.ref h8, .ref h1, .ref kthis_scratch])), (h1, .inr (6, [.ref h8, .ref h7, .ref h3, .ref h6, .ref h4, .ref h2, .ref h5, .int y5, .int y6, .int y7, .int y8, .int y9, .int y10, .int y11])), (h2, .inr (0, [.int y12, .int y13, .int y14, .int y15, .int y16, .int y17, .int y18, .long z19, .long z20])), (h3, .inr (7, [.ref kthis_session_audio_rungs, .int y21])), (h4, .inr (1, [.int y22, .int v4_track, .int v4_segment, .int v4_rung, .int v4_waiting, .int v4_duration, .long v4_bits, .long v4_received])), (h5, .inr (3, [.ref kthis_session_line_signs, .int y23])), (h6, .inr (5, [.ref kthis_session_samples_bits, .ref kthis_session_samples_durations, .int y24])), (h7, .inr (7, [.ref kthis_session_video_rungs, .int y25]))] := hD
      refine lv_aload_n hx hb dX9_start_38 rfl (lv_at hl 0 rfl) ?_
      refine gf_X9_10 (v := .ref h8) S hK hP 4 rfl rfl dX9_start_39 ?_
      refine lv_iconst (v := 1) hx hb dX9_start_42 li_1 ?_
      refine rdV (pc1 := 46) (rest := []) (st1 := [.int (f_X8_valueOf r10 1)]) S (c_X8_valueOf l D cI cJ cC h8 h10 h11 kthis_stream_audio h9 r10 1 _ rfl) (cw_X9_97 S.2.2.2.2 ⟨Nat.le_of_ble_eq_true rfl, Nat.le_of_ble_eq_true rfl⟩) hK (hP.sub [0, 2] rfl) rfl rfl rfl rfl hl.1 rfl (Nat.le_of_ble_eq_true rfl) ⟨Nat.le_of_ble_eq_true rfl, Nat.le_of_ble_eq_true rfl⟩ rfl rfl dX9_start_43 ?_
      subst h
      exact xRi S hr hlk (Nat.le_of_ble_eq_true rfl) (Nat.le_of_ble_eq_true rfl) (hP.sub [4, 5, 6, 7, 8, 9, 10, 11, 0, 1, 2, 3] rfl) (hD.sub [4, 5, 6, 7, 8, 9, 10, 11, 0, 1, 2, 3] (by decide) rfl) hS dX9_start_46
abbrev rm_X9_requireSession : Room := { frames := 7, cells := 1, slots := 6, locals := 110 }
theorem dX9_requireSession_0 : decode cX9_requireSession 0 = .ok (.aload_n 0, 1) := by decide +kernel
theorem dX9_requireSession_1 : decode cX9_requireSession 1 = .ok (.getfield 21, 3) := by decide +kernel
theorem dX9_requireSession_4 : decode cX9_requireSession 4 = .ok (.getfield 113, 3) := by decide +kernel
theorem dX9_requireSession_7 : decode cX9_requireSession 7 = .ok (.ifCond .ne 13, 3) := by decide +kernel
theorem dX9_requireSession_10 : decode cX9_requireSession 10 = .ok (.new 246, 3) := by decide +kernel
theorem dX9_requireSession_13 : decode cX9_requireSession 13 = .ok (.dup, 1) := by decide +kernel
theorem dX9_requireSession_14 : decode cX9_requireSession 14 = .ok (.ldc 251, 2) := by decide +kernel
theorem dX9_requireSession_16 : decode cX9_requireSession 16 = .ok (.invokespecial 250, 3) := by decide +kernel
theorem dX9_requireSession_19 : decode cX9_requireSession 19 = .ok (.athrow, 1) := by decide +kernel
theorem dX9_requireSession_20 : decode cX9_requireSession 20 = .ok (.return_, 1) := by decide +kernel
def f_X9_requireSession (v1_state : Int32) : Nat :=
  if v1_state = 0 then
    3
  else
    0
set_option maxHeartbeats 4000000 in
set_option maxRecDepth 100000 in
theorem c_X9_requireSession (l : Launch) (hfl : l.stackTraces = false) (ga : Nat → Nat) (D : va_G) (cI cJ cC : ClassId) (h0 h1 kthis_stream kthis_scratch kthis_session_video kthis_session_audio kthis_session_samples kthis_session_download kthis_session_accounts kthis_session_line : Nat) (v1_mode v1_startThreshold v1_lastRung v1_lastChange v1_state v1_time v1_position : Int32) (sz : Nat)  (t0 : Nat) (h : f_X9_requireSession v1_state = t0) : vx_Met l yX9_requireSession (Cond.code yX9_requireSession cX9_requireSession 1 none :: TB) rm_X9_requireSession (PreX ga D cI cJ cC [(h0, .inr (9, [.ref kthis_stream, .ref h1, .ref kthis_scratch])), (h1, .inr (6, [.ref kthis_stream, .ref kthis_session_video, .ref kthis_session_audio, .ref kthis_session_samples, .ref kthis_session_download, .ref kthis_session_accounts, .ref kthis_session_line, .int v1_mode, .int v1_startThreshold, .int v1_lastRung, .int v1_lastChange, .int v1_state, .int v1_time, .int v1_position]))] sz [.ref h0]) (QX t0 none D [(h0, .inr (9, [.ref kthis_stream, .ref h1, .ref kthis_scratch])), (h1, .inr (6, [.ref kthis_stream, .ref kthis_session_video, .ref kthis_session_audio, .ref kthis_session_samples, .ref kthis_session_download, .ref kthis_session_accounts, .ref kthis_session_line, .int v1_mode, .int v1_startThreshold, .int v1_lastRung, .int v1_lastChange, .int v1_state, .int v1_time, .int v1_position]))] (va_A [(h0, .inr (9, [.ref kthis_stream, .ref h1, .ref kthis_scratch])), (h1, .inr (6, [.ref kthis_stream, .ref kthis_session_video, .ref kthis_session_audio, .ref kthis_session_samples, .ref kthis_session_download, .ref kthis_session_accounts, .ref kthis_session_line, .int v1_mode, .int v1_startThreshold, .int v1_lastRung, .int v1_lastChange, .int v1_state, .int v1_time, .int v1_position]))] sz)) (XX t0 D [(h0, .inr (9, [.ref kthis_stream, .ref h1, .ref kthis_scratch])), (h1, .inr (6, [.ref kthis_stream, .ref kthis_session_video, .ref kthis_session_audio, .ref kthis_session_samples, .ref kthis_session_download, .ref kthis_session_accounts, .ref kthis_session_line, .int v1_mode, .int v1_startThreshold, .int v1_lastRung, .int v1_lastChange, .int v1_state, .int v1_time, .int v1_position]))] (va_A [(h0, .inr (9, [.ref kthis_stream, .ref h1, .ref kthis_scratch])), (h1, .inr (6, [.ref kthis_stream, .ref kthis_session_video, .ref kthis_session_audio, .ref kthis_session_samples, .ref kthis_session_download, .ref kthis_session_accounts, .ref kthis_session_line, .int v1_mode, .int v1_startThreshold, .int v1_lastRung, .int v1_lastChange, .int v1_state, .int v1_time, .int v1_position]))] sz)) 1 6 (va_A [(h0, .inr (9, [.ref kthis_stream, .ref h1, .ref kthis_scratch])), (h1, .inr (6, [.ref kthis_stream, .ref kthis_session_video, .ref kthis_session_audio, .ref kthis_session_samples, .ref kthis_session_download, .ref kthis_session_accounts, .ref kthis_session_line, .int v1_mode, .int v1_startThreshold, .int v1_lastRung, .int v1_lastChange, .int v1_state, .int v1_time, .int v1_position]))] sz) := by
  refine metX (own := RX9) (by decide) rfl (Nat.le_of_ble_eq_true rfl) ?_
  intro p e s m below meth c S hr hlk hnt hP hK A hAe hD hA hS hG ls hl
  clear hAe
  have hx := S.1
  have hb := S.2.1
  have hl : lv_has ls 1 [(0, .ref h0)] := hl
  refine lv_aload_n hx hb dX9_requireSession_0 rfl (lv_at hl 0 rfl) ?_
  refine gf_X9_21 (v := .ref h1) S hK hP 0 rfl rfl dX9_requireSession_1 ?_
  refine gf_X9_113 (v := .int v1_state) S hK hP 1 rfl rfl dX9_requireSession_4 ?_
  refine lv_if_ne (tgt := 20) hx hb dX9_requireSession_7 (by decide) (fun c1 => ?_) (fun c1 => ?_)
  · have h := iteN c1 h
    subst h
    exact xRv S hr hlk (Nat.le_of_ble_eq_true rfl) (Nat.le_of_ble_eq_true rfl) (hP.sub [0, 1] rfl) (hD.sub [0, 1] (by decide) rfl) hS dX9_requireSession_20
  · have h := iteP c1 h
    subst h
    exact xthr (k := 3) (is := 251) (tx := "there is no session") S hlk hnt hfl (by decide) (by decide) tb478 tb63 gd_3_250 bd_3_250 ot_3_250 hG (List.mem_of_getElem? (i := 4) rfl) (hP.sub [0, 1] rfl) (hD.sub [0, 1] (by decide) rfl) hS hl.1 dX9_requireSession_10 dX9_requireSession_13 dX9_requireSession_14 dX9_requireSession_16 dX9_requireSession_19 (Nat.le_of_ble_eq_true rfl) (Nat.le_of_ble_eq_true rfl) (Nat.le_of_ble_eq_true rfl) (Nat.le_of_ble_eq_true rfl) (Nat.le_of_ble_eq_true rfl) (Nat.le_of_ble_eq_true rfl)
abbrev rm_X9_stop : Room := { frames := 8, cells := 1, slots := 6, locals := 130 }
theorem dX9_stop_0 : decode cX9_stop 0 = .ok (.aload_n 0, 1) := by decide +kernel
theorem dX9_stop_1 : decode cX9_stop 1 = .ok (.invokevirtual 110, 3) := by decide +kernel
theorem dX9_stop_4 : decode cX9_stop 4 = .ok (.aload_n 0, 1) := by decide +kernel
theorem dX9_stop_5 : decode cX9_stop 5 = .ok (.getfield 21, 3) := by decide +kernel
theorem dX9_stop_8 : decode cX9_stop 8 = .ok (.iconst 0, 1) := by decide +kernel
theorem dX9_stop_9 : decode cX9_stop 9 = .ok (.putfield 113, 3) := by decide +kernel
theorem dX9_stop_12 : decode cX9_stop 12 = .ok (.aload_n 0, 1) := by decide +kernel
theorem dX9_stop_13 : decode cX9_stop 13 = .ok (.getfield 21, 3) := by decide +kernel
theorem dX9_stop_16 : decode cX9_stop 16 = .ok (.getfield 116, 3) := by decide +kernel
theorem dX9_stop_19 : decode cX9_stop 19 = .ok (.ireturn, 1) := by decide +kernel
theorem cw_X9_110 {R : Room} {s : State} {args : Array Value} (hts : ∀ w ∈ TB, w.before args s = true) (hR : rm_X9_requireSession.frames + 1 ≤ R.frames ∧ 8 + (1 + 11) + rm_X9_requireSession.locals ≤ R.locals) : CallW R s args RX9 RX9 110 yX9_requireSession cX9_requireSession 1 none (Cond.code yX9_requireSession cX9_requireSession 1 none :: TB) rm_X9_requireSession 1 6 0 := cwV 0 hts (gV tb623 tb624 tb2 tb47 tb625) rfl rfl rfl ⟨rfl, by decide, by decide, by decide +kernel⟩ hR
theorem pf_X9_113 {p : Program} {l : Launch} {e : Env} {R : Room} {s : State} {m : MethodId} {args : Array Value} {below : List Frame} {meth : Method} {c : Code} {H H0 : Heap} {locs : List Loc} {cells slots : Nat} {Q : State → Prop} {cc : ByteArray} {pc nL : Nat} {ls : Array Slot} {rest : List Value} {D : va_G} {ws : va_W} {tys : List (ClassId × FieldType)} {A : Nat → Prop} {x9 : Int32} {v : Value} (S : CallFix p m c cc nL s args TB RX9) (hK : va_K D vwCl tys s) (hP : va_P D vwCl ws H) (hD : va_D A ws) (hS : va_S A H0 H locs) (q0 : Nat) {a : Nat} {fs : List Value} (he : ws[q0]? = some (a, .inr (6, fs))) (hle : 11 < fs.length) (hv9 : v = .int x9) (hdg : decode cc pc = .ok (.putfield 113, 3))
    (kk : ∀ (H1 : Heap) (locs1 : List Loc), va_P D vwCl (ws.set q0 (a, .inr (6, fs.set 11 v))) H1 → va_D A (ws.set q0 (a, .inr (6, fs.set 11 v))) → va_S A H0 H1 locs1 → W p l e R s m args below meth c H1 locs1 cells slots Q (F0 m (pc + 3) ls rest)) : W p l e R s m args below meth c H locs cells slots Q (F0 m pc ls (v :: .ref a :: rest)) := by
  subst hv9
  exact va_put (D := D) (ci := 6) (ty := .int) (C := RX6) (T := TX6) (N := 14) S.1 S.2.1 S.2.2.2.2 iwX6 tyX6 tyX6_ok nmX6 S.2.2.2.1 hK hP hD hS q0 he rfl 11 (by decide) (S.2.2.2.2 _ tb286) (fun _ h9 => h9) rfl (by decide +kernel) rfl rfl hle hdg kk
theorem gf_X9_116 {p : Program} {l : Launch} {e : Env} {R : Room} {s : State} {m : MethodId} {args : Array Value} {below : List Frame} {meth : Method} {c : Code} {H : Heap} {locs : List Loc} {cells slots : Nat} {Q : State → Prop} {cc : ByteArray} {pc nL : Nat} {ls : Array Slot} {rest : List Value} {D : va_G} {ws : va_W} {tys : List (ClassId × FieldType)} (S : CallFix p m c cc nL s args TB RX9) (hK : va_K D vwCl tys s) (hP : va_P D vwCl ws H) (q0 : Nat) {a : Nat} {fs : List Value} (he : ws[q0]? = some (a, .inr (6, fs))) {v : Value} (hv : fs[12]? = some v) (hdg : decode cc pc = .ok (.getfield 116, 3))
    (kk : W p l e R s m args below meth c H locs cells slots Q (F0 m (pc + 3) ls (v :: rest))) : W p l e R s m args below meth c H locs cells slots Q (F0 m pc ls (.ref a :: rest)) :=
  va_get (D := D) (ci := 6) (C := RX6) (T := TX6) (N := 14) S.1 S.2.1 S.2.2.2.2 iwX6 S.2.2.2.1 hK hP q0 he rfl 12 (by decide) (S.2.2.2.2 _ tb288) (fun _ h9 => h9) hv hdg kk
def f_X9_stop (v1_state v1_time : Int32) : Nat × Int32 × Int32 :=
  bnd (f_X9_requireSession v1_state) fun (k1 : Nat) =>
  if k1 = 0 then
    (0, v1_time, 0)
  else
    (k1, 0, v1_state)
set_option maxHeartbeats 4000000 in
set_option maxRecDepth 100000 in
theorem c_X9_stop (l : Launch) (hfl : l.stackTraces = false) (ga : Nat → Nat) (D : va_G) (cI cJ cC : ClassId) (h0 h1 kthis_stream kthis_scratch kthis_session_video kthis_session_audio kthis_session_samples kthis_session_download kthis_session_accounts kthis_session_line : Nat) (v1_mode v1_startThreshold v1_lastRung v1_lastChange v1_state v1_time v1_position : Int32) (sz : Nat)  (T : Nat × Int32 × Int32) (h : f_X9_stop v1_state v1_time = T) : vx_Met l yX9_stop (Cond.code yX9_stop cX9_stop 1 (some .int) :: TB) rm_X9_stop (PreX ga D cI cJ cC [(h0, .inr (9, [.ref kthis_stream, .ref h1, .ref kthis_scratch])), (h1, .inr (6, [.ref kthis_stream, .ref kthis_session_video, .ref kthis_session_audio, .ref kthis_session_samples, .ref kthis_session_download, .ref kthis_session_accounts, .ref kthis_session_line, .int v1_mode, .int v1_startThreshold, .int v1_lastRung, .int v1_lastChange, .int v1_state, .int v1_time, .int v1_position]))] sz [.ref h0]) (QX T.1 (some (.int T.2.1)) D [(h0, .inr (9, [.ref kthis_stream, .ref h1, .ref kthis_scratch])), (h1, .inr (6, [.ref kthis_stream, .ref kthis_session_video, .ref kthis_session_audio, .ref kthis_session_samples, .ref kthis_session_download, .ref kthis_session_accounts, .ref kthis_session_line, .int v1_mode, .int v1_startThreshold, .int v1_lastRung, .int v1_lastChange, .int T.2.2, .int v1_time, .int v1_position]))] (va_A [(h0, .inr (9, [.ref kthis_stream, .ref h1, .ref kthis_scratch])), (h1, .inr (6, [.ref kthis_stream, .ref kthis_session_video, .ref kthis_session_audio, .ref kthis_session_samples, .ref kthis_session_download, .ref kthis_session_accounts, .ref kthis_session_line, .int v1_mode, .int v1_startThreshold, .int v1_lastRung, .int v1_lastChange, .int v1_state, .int v1_time, .int v1_position]))] sz)) (XX T.1 D [(h0, .inr (9, [.ref kthis_stream, .ref h1, .ref kthis_scratch])), (h1, .inr (6, [.ref kthis_stream, .ref kthis_session_video, .ref kthis_session_audio, .ref kthis_session_samples, .ref kthis_session_download, .ref kthis_session_accounts, .ref kthis_session_line, .int v1_mode, .int v1_startThreshold, .int v1_lastRung, .int v1_lastChange, .int T.2.2, .int v1_time, .int v1_position]))] (va_A [(h0, .inr (9, [.ref kthis_stream, .ref h1, .ref kthis_scratch])), (h1, .inr (6, [.ref kthis_stream, .ref kthis_session_video, .ref kthis_session_audio, .ref kthis_session_samples, .ref kthis_session_download, .ref kthis_session_accounts, .ref kthis_session_line, .int v1_mode, .int v1_startThreshold, .int v1_lastRung, .int v1_lastChange, .int v1_state, .int v1_time, .int v1_position]))] sz)) 1 6 (va_A [(h0, .inr (9, [.ref kthis_stream, .ref h1, .ref kthis_scratch])), (h1, .inr (6, [.ref kthis_stream, .ref kthis_session_video, .ref kthis_session_audio, .ref kthis_session_samples, .ref kthis_session_download, .ref kthis_session_accounts, .ref kthis_session_line, .int v1_mode, .int v1_startThreshold, .int v1_lastRung, .int v1_lastChange, .int v1_state, .int v1_time, .int v1_position]))] sz) := by
  refine metX (own := RX9) (by decide) rfl (Nat.le_of_ble_eq_true rfl) ?_
  intro p e s m below meth c S hr hlk hnt hP hK A hAe hD hA hS hG ls hl
  clear hAe
  have hx := S.1
  have hb := S.2.1
  have hl : lv_has ls 1 [(0, .ref h0)] := hl
  refine lv_aload_n hx hb dX9_stop_0 rfl (lv_at hl 0 rfl) ?_
  obtain ⟨k1, e_k1⟩ : ∃ a0, f_X9_requireSession v1_state = a0 := ⟨_, rfl⟩
  have h := bnd_eq e_k1 h
  refine xcV (pc1 := 4) (rest := []) (st1 := []) (wr := []) (cells1 := 1) (slots1 := 6) S (c_X9_requireSession l hfl ga D cI cJ cC h0 h1 kthis_stream kthis_scratch kthis_session_video kthis_session_audio kthis_session_samples kthis_session_download kthis_session_accounts kthis_session_line v1_mode v1_startThreshold v1_lastRung v1_lastChange v1_state v1_time v1_position s.heap.size  k1 e_k1) (cw_X9_110 S.2.2.2.2 ⟨Nat.le_of_ble_eq_true rfl, Nat.le_of_ble_eq_true rfl⟩) hK hP hD hS hA hG [0, 1] [] rfl rfl rfl (by decide) (by decide) (by decide) rfl rfl rfl rfl hl.1 rfl (Nat.le_of_ble_eq_true rfl) ⟨Nat.le_of_ble_eq_true rfl, Nat.le_of_ble_eq_true rfl⟩ rfl rfl rfl rfl dX9_stop_1 (fun c2 H locs ce q9 hP hD hS hce hcv hcl => ?_) (fun c2 H locs hP hD hS => ?_)
  · have h := iteN c2 h
    have hP : va_P D vwCl [(h0, .inr (9, [.ref kthis_stream, .ref h1, .ref kthis_scratch])), (h1, .inr (6, [.ref kthis_stream, .ref kthis_session_video, .ref kthis_session_audio, .ref kthis_session_samples, .ref kthis_session_download, .ref kthis_session_accounts, .ref kthis_session_line, .int v1_mode, .int v1_startThreshold, .int v1_lastRung, .int v1_lastChange, .int v1_state, .int v1_time, .int v1_position]))] H := hP
    have hD : va_D A [(h0, .inr (9, [.ref kthis_stream, .ref h1, .ref kthis_scratch])), (h1, .inr (6, [.ref kthis_stream, .ref kthis_session_video, .ref kthis_session_audio, .ref kthis_session_samples, .ref kthis_session_download, .ref kthis_session_accounts, .ref kthis_session_line, .int v1_mode, .int v1_startThreshold, .int v1_lastRung, .int v1_lastChange, .int v1_state, .int v1_time, .int v1_position]))] := hD
    subst h
    exact xout hnt hlk c2 (hP.sub [0, 1] rfl) (hD.sub [0, 1] (by decide) rfl) hS hce hcv hcl (Nat.le_of_ble_eq_true rfl) (Nat.le_of_ble_eq_true rfl)
  · have h := iteP c2 h
    have hP : va_P D vwCl [(h0, .inr (9, [.ref kthis_stream, .ref h1, .ref kthis_scratch])), (h1, .inr (6, [.ref kthis_stream, .ref kthis_session_video, .ref kthis_session_audio, .ref kthis_session_samples, .ref kthis_session_download, .ref kthis_session_accounts, .ref kthis_session_line, .int v1_mode, .int v1_startThreshold, .int v1_lastRung, .int v1_lastChange, .int v1_state, .int v1_time, .int v1_position]))] H := hP
    have hD : va_D A [(h0, .inr (9, [.ref kthis_stream, .ref h1, .ref kthis_scratch])), (h1, .inr (6, [.ref kthis_stream, .ref kthis_session_video, .ref kthis_session_audio, .ref kthis_session_samples, .ref kthis_session_download, .ref kthis_session_accounts, .ref kthis_session_line, .int v1_mode, .int v1_startThreshold, .int v1_lastRung, .int v1_lastChange, .int v1_state, .int v1_time, .int v1_position]))] := hD
    refine lv_aload_n hx hb dX9_stop_4 rfl (lv_at hl 0 rfl) ?_
    refine gf_X9_21 (v := .ref h1) S hK hP 0 rfl rfl dX9_stop_5 ?_
    refine lv_iconst (v := 0) hx hb dX9_stop_8 li_0 ?_
    refine pf_X9_113 (v := .int 0) S hK hP hD hS 1 rfl (Nat.le_of_ble_eq_true rfl) rfl dX9_stop_9 (fun H locs hP hD hS => ?_)
    have hP : va_P D vwCl [(h0, .inr (9, [.ref kthis_stream, .ref h1, .ref kthis_scratch])), (h1, .inr (6, [.ref kthis_stream, .ref kthis_session_video, .ref kthis_session_audio, .ref kthis_session_samples, .ref kthis_session_download, .ref kthis_session_accounts, .ref kthis_session_line, .int v1_mode, .int v1_startThreshold, .int v1_lastRung, .int v1_lastChange, .int 0, .int v1_time, .int v1_position]))] H := hP
    have hD : va_D A [(h0, .inr (9, [.ref kthis_stream, .ref h1, .ref kthis_scratch])), (h1, .inr (6, [.ref kthis_stream, .ref kthis_session_video, .ref kthis_session_audio, .ref kthis_session_samples, .ref kthis_session_download, .ref kthis_session_accounts, .ref kthis_session_line, .int v1_mode, .int v1_startThreshold, .int v1_lastRung, .int v1_lastChange, .int 0, .int v1_time, .int v1_position]))] := hD
    refine lv_aload_n hx hb dX9_stop_12 rfl (lv_at hl 0 rfl) ?_
    refine gf_X9_21 (v := .ref h1) S hK hP 0 rfl rfl dX9_stop_13 ?_
    refine gf_X9_116 (v := .int v1_time) S hK hP 1 rfl rfl dX9_stop_16 ?_
    subst h
    exact xRi S hr hlk (Nat.le_of_ble_eq_true rfl) (Nat.le_of_ble_eq_true rfl) (hP.sub [0, 1] rfl) (hD.sub [0, 1] (by decide) rfl) hS dX9_stop_19
abbrev rm_X9_requireMilliseconds : Room := { frames := 8, cells := 1, slots := 6, locals := 130 }
theorem dX9_requireMilliseconds_0 : decode cX9_requireMilliseconds 0 = .ok (.iload_n 0, 1) := by decide +kernel
theorem dX9_requireMilliseconds_1 : decode cX9_requireMilliseconds 1 = .ok (.ifCond .lt 14, 3) := by decide +kernel
theorem dX9_requireMilliseconds_4 : decode cX9_requireMilliseconds 4 = .ok (.iload_n 0, 1) := by decide +kernel
theorem dX9_requireMilliseconds_5 : decode cX9_requireMilliseconds 5 = .ok (.sipush 20000, 3) := by decide +kernel
theorem dX9_requireMilliseconds_8 : decode cX9_requireMilliseconds 8 = .ok (.if_icmp .gt 7, 3) := by decide +kernel
theorem dX9_requireMilliseconds_11 : decode cX9_requireMilliseconds 11 = .ok (.iconst 1, 1) := by decide +kernel
theorem dX9_requireMilliseconds_12 : decode cX9_requireMilliseconds 12 = .ok (.goto 4, 3) := by decide +kernel
theorem dX9_requireMilliseconds_15 : decode cX9_requireMilliseconds 15 = .ok (.iconst 0, 1) := by decide +kernel
theorem dX9_requireMilliseconds_16 : decode cX9_requireMilliseconds 16 = .ok (.invokestatic 40, 3) := by decide +kernel
theorem dX9_requireMilliseconds_19 : decode cX9_requireMilliseconds 19 = .ok (.return_, 1) := by decide +kernel
def f_X9_requireMilliseconds (p0 : Int32) : Nat :=
  if p0 < 0 then
    bnd (f_X9_requireArgument 0) fun (k2 : Nat) =>
    if k2 = 0 then
      0
    else
      k2
  else
    if 20000 < p0 then
      bnd (f_X9_requireArgument 0) fun (k5 : Nat) =>
      if k5 = 0 then
        0
      else
        k5
    else
      bnd (f_X9_requireArgument 1) fun (k7 : Nat) =>
      if k7 = 0 then
        0
      else
        k7
set_option maxHeartbeats 4000000 in
set_option maxRecDepth 100000 in
theorem c_X9_requireMilliseconds (l : Launch) (hfl : l.stackTraces = false) (ga : Nat → Nat) (D : va_G) (cI cJ cC : ClassId)  (sz : Nat) (p0 : Int32) (t0 : Nat) (h : f_X9_requireMilliseconds p0 = t0) : vx_Met l yX9_requireMilliseconds (Cond.code yX9_requireMilliseconds cX9_requireMilliseconds 1 none :: TB) rm_X9_requireMilliseconds (PreX ga D cI cJ cC [] sz [.int p0]) (QX t0 none D [] (va_A [] sz)) (XX t0 D [] (va_A [] sz)) 1 6 (va_A [] sz) := by
  refine metX (own := RX9) (by decide) rfl (Nat.le_of_ble_eq_true rfl) ?_
  intro p e s m below meth c S hr hlk hnt hP hK A hAe hD hA hS hG ls hl
  clear hAe
  have hx := S.1
  have hb := S.2.1
  have hl : lv_has ls 1 [(0, .int p0)] := hl
  refine lv_iload_n hx hb dX9_requireMilliseconds_0 rfl (lv_at hl 0 rfl) ?_
  refine lv_if_lt (tgt := 15) hx hb dX9_requireMilliseconds_1 (by decide) (fun c1 => ?_) (fun c1 => ?_)
  · have h := iteP c1 h
    refine lv_iconst (v := 0) hx hb dX9_requireMilliseconds_15 li_0 ?_
    obtain ⟨k2, e_k2⟩ : ∃ a0, f_X9_requireArgument 0 = a0 := ⟨_, rfl⟩
    have h := bnd_eq e_k2 h
    refine xcS (pc1 := 19) (rest := []) (st1 := []) (wr := []) (cells1 := 1) (slots1 := 6) S (c_X9_requireArgument l hfl ga D cI cJ cC  s.heap.size 0 k2 e_k2) (cw_X9_40 S.2.2.2.2 ⟨Nat.le_of_ble_eq_true rfl, Nat.le_of_ble_eq_true rfl⟩) hK hP hD hS hA hG [] [] rfl rfl rfl (by decide) (by decide) (by decide) rfl hl.1 rfl (Nat.le_of_ble_eq_true rfl) ⟨Nat.le_of_ble_eq_true rfl, Nat.le_of_ble_eq_true rfl⟩ rfl rfl rfl rfl dX9_requireMilliseconds_16 (fun c3 H locs ce q9 hP hD hS hce hcv hcl => ?_) (fun c3 H locs hP hD hS => ?_)
    · have h := iteN c3 h
      have hP : va_P D vwCl [] H := hP
      have hD : va_D A [] := hD
      subst h
      exact xout hnt hlk c3 (hP.sub [] rfl) (hD.sub [] (by decide) rfl) hS hce hcv hcl (Nat.le_of_ble_eq_true rfl) (Nat.le_of_ble_eq_true rfl)
    · have h := iteP c3 h
      have hP : va_P D vwCl [] H := hP
      have hD : va_D A [] := hD
      subst h
      exact xRv S hr hlk (Nat.le_of_ble_eq_true rfl) (Nat.le_of_ble_eq_true rfl) (hP.sub [] rfl) (hD.sub [] (by decide) rfl) hS dX9_requireMilliseconds_19
  · have h := iteN c1 h
    refine lv_iload_n hx hb dX9_requireMilliseconds_4 rfl (lv_at hl 0 rfl) ?_
    refine lv_sipush (v := 20000) hx hb dX9_requireMilliseconds_5 ls_20000 ?_
    refine lv_icmp_gt (tgt := 15) hx hb dX9_requireMilliseconds_8 (by decide) (fun c4 => ?_) (fun c4 => ?_)
    · have h := iteP c4 h
      refine lv_iconst (v := 0) hx hb dX9_requireMilliseconds_15 li_0 ?_
      obtain ⟨k5, e_k5⟩ : ∃ a0, f_X9_requireArgument 0 = a0 := ⟨_, rfl⟩
      have h := bnd_eq e_k5 h
      refine xcS (pc1 := 19) (rest := []) (st1 := []) (wr := []) (cells1 := 1) (slots1 := 6) S (c_X9_requireArgument l hfl ga D cI cJ cC  s.heap.size 0 k5 e_k5) (cw_X9_40 S.2.2.2.2 ⟨Nat.le_of_ble_eq_true rfl, Nat.le_of_ble_eq_true rfl⟩) hK hP hD hS hA hG [] [] rfl rfl rfl (by decide) (by decide) (by decide) rfl hl.1 rfl (Nat.le_of_ble_eq_true rfl) ⟨Nat.le_of_ble_eq_true rfl, Nat.le_of_ble_eq_true rfl⟩ rfl rfl rfl rfl dX9_requireMilliseconds_16 (fun c6 H locs ce q9 hP hD hS hce hcv hcl => ?_) (fun c6 H locs hP hD hS => ?_)
      · have h := iteN c6 h
        have hP : va_P D vwCl [] H := hP
        have hD : va_D A [] := hD
        subst h
        exact xout hnt hlk c6 (hP.sub [] rfl) (hD.sub [] (by decide) rfl) hS hce hcv hcl (Nat.le_of_ble_eq_true rfl) (Nat.le_of_ble_eq_true rfl)
      · have h := iteP c6 h
        have hP : va_P D vwCl [] H := hP
        have hD : va_D A [] := hD
        subst h
        exact xRv S hr hlk (Nat.le_of_ble_eq_true rfl) (Nat.le_of_ble_eq_true rfl) (hP.sub [] rfl) (hD.sub [] (by decide) rfl) hS dX9_requireMilliseconds_19
    · have h := iteN c4 h
      refine lv_iconst (v := 1) hx hb dX9_requireMilliseconds_11 li_1 ?_
      refine lv_goto (tgt := 16) hx hb dX9_requireMilliseconds_12 (by decide) ?_
      obtain ⟨k7, e_k7⟩ : ∃ a0, f_X9_requireArgument 1 = a0 := ⟨_, rfl⟩
      have h := bnd_eq e_k7 h
      refine xcS (pc1 := 19) (rest := []) (st1 := []) (wr := []) (cells1 := 1) (slots1 := 6) S (c_X9_requireArgument l hfl ga D cI cJ cC  s.heap.size 1 k7 e_k7) (cw_X9_40 S.2.2.2.2 ⟨Nat.le_of_ble_eq_true rfl, Nat.le_of_ble_eq_true rfl⟩) hK hP hD hS hA hG [] [] rfl rfl rfl (by decide) (by decide) (by decide) rfl hl.1 rfl (Nat.le_of_ble_eq_true rfl) ⟨Nat.le_of_ble_eq_true rfl, Nat.le_of_ble_eq_true rfl⟩ rfl rfl rfl rfl dX9_requireMilliseconds_16 (fun c8 H locs ce q9 hP hD hS hce hcv hcl => ?_) (fun c8 H locs hP hD hS => ?_)
      · have h := iteN c8 h
        have hP : va_P D vwCl [] H := hP
        have hD : va_D A [] := hD
        subst h
        exact xout hnt hlk c8 (hP.sub [] rfl) (hD.sub [] (by decide) rfl) hS hce hcv hcl (Nat.le_of_ble_eq_true rfl) (Nat.le_of_ble_eq_true rfl)
      · have h := iteP c8 h
        have hP : va_P D vwCl [] H := hP
        have hD : va_D A [] := hD
        subst h
        exact xRv S hr hlk (Nat.le_of_ble_eq_true rfl) (Nat.le_of_ble_eq_true rfl) (hP.sub [] rfl) (hD.sub [] (by decide) rfl) hS dX9_requireMilliseconds_19
