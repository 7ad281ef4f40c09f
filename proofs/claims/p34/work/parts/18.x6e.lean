abbrev rm_X6_isCatchingUp : Room := { frames := 2, cells := 0, slots := 0, locals := 41 }
theorem dX6_isCatchingUp_0 : decode cX6_isCatchingUp 0 = .ok (.aload_n 0, 1) := by decide +kernel
theorem dX6_isCatchingUp_1 : decode cX6_isCatchingUp 1 = .ok (.getfield 79, 3) := by decide +kernel
theorem dX6_isCatchingUp_4 : decode cX6_isCatchingUp 4 = .ok (.bipush 10, 2) := by decide +kernel
theorem dX6_isCatchingUp_6 : decode cX6_isCatchingUp 6 = .ok (.irem, 1) := by decide +kernel
theorem dX6_isCatchingUp_7 : decode cX6_isCatchingUp 7 = .ok (.ifCond .ne 45, 3) := by decide +kernel
theorem dX6_isCatchingUp_10 : decode cX6_isCatchingUp 10 = .ok (.aload_n 0, 1) := by decide +kernel
theorem dX6_isCatchingUp_11 : decode cX6_isCatchingUp 11 = .ok (.getfield 53, 3) := by decide +kernel
theorem dX6_isCatchingUp_14 : decode cX6_isCatchingUp 14 = .ok (.invokevirtual 277, 3) := by decide +kernel
theorem dX6_isCatchingUp_17 : decode cX6_isCatchingUp 17 = .ok (.ifCond .eq 35, 3) := by decide +kernel
theorem dX6_isCatchingUp_20 : decode cX6_isCatchingUp 20 = .ok (.aload_n 0, 1) := by decide +kernel
theorem dX6_isCatchingUp_21 : decode cX6_isCatchingUp 21 = .ok (.invokevirtual 280, 3) := by decide +kernel
theorem dX6_isCatchingUp_24 : decode cX6_isCatchingUp 24 = .ok (.aload_n 0, 1) := by decide +kernel
theorem dX6_isCatchingUp_25 : decode cX6_isCatchingUp 25 = .ok (.getfield 53, 3) := by decide +kernel
theorem dX6_isCatchingUp_28 : decode cX6_isCatchingUp 28 = .ok (.bipush 14, 2) := by decide +kernel
theorem dX6_isCatchingUp_30 : decode cX6_isCatchingUp 30 = .ok (.invokevirtual 176, 3) := by decide +kernel
theorem dX6_isCatchingUp_33 : decode cX6_isCatchingUp 33 = .ok (.if_icmp .le 19, 3) := by decide +kernel
theorem dX6_isCatchingUp_36 : decode cX6_isCatchingUp 36 = .ok (.iload_n 1, 1) := by decide +kernel
theorem dX6_isCatchingUp_37 : decode cX6_isCatchingUp 37 = .ok (.aload_n 0, 1) := by decide +kernel
theorem dX6_isCatchingUp_38 : decode cX6_isCatchingUp 38 = .ok (.getfield 53, 3) := by decide +kernel
theorem dX6_isCatchingUp_41 : decode cX6_isCatchingUp 41 = .ok (.iconst 5, 1) := by decide +kernel
theorem dX6_isCatchingUp_42 : decode cX6_isCatchingUp 42 = .ok (.invokevirtual 176, 3) := by decide +kernel
theorem dX6_isCatchingUp_45 : decode cX6_isCatchingUp 45 = .ok (.if_icmp .lt 7, 3) := by decide +kernel
theorem dX6_isCatchingUp_48 : decode cX6_isCatchingUp 48 = .ok (.iconst 1, 1) := by decide +kernel
theorem dX6_isCatchingUp_49 : decode cX6_isCatchingUp 49 = .ok (.goto 4, 3) := by decide +kernel
theorem dX6_isCatchingUp_52 : decode cX6_isCatchingUp 52 = .ok (.iconst 0, 1) := by decide +kernel
theorem dX6_isCatchingUp_53 : decode cX6_isCatchingUp 53 = .ok (.ireturn, 1) := by decide +kernel
theorem cw_X6_277 {R : Room} {s : State} {args : Array Value} (hts : ∀ w ∈ TB, w.before args s = true) (hR : rm_X8_isLive.frames + 1 ≤ R.frames ∧ 8 + (1 + 11) + rm_X8_isLive.locals ≤ R.locals) : CallW R s args RX6 RX8 277 yX8_isLive cX8_isLive 1 (some .boolean) (Cond.code yX8_isLive cX8_isLive 1 (some .boolean) :: TB) rm_X8_isLive 0 0 0 := cwV 0 hts (gV tb637 tb638 tb639 tb22 tb640) rfl rfl rfl ⟨rfl, by decide, by decide, by decide +kernel⟩ hR
theorem cw_X6_280 {R : Room} {s : State} {args : Array Value} (hts : ∀ w ∈ TB, w.before args s = true) (hR : rm_X6_behindLive.frames + 1 ≤ R.frames ∧ 8 + (1 + 11) + rm_X6_behindLive.locals ≤ R.locals) : CallW R s args RX6 RX6 280 yX6_behindLive cX6_behindLive 1 (some .int) (Cond.code yX6_behindLive cX6_behindLive 1 (some .int) :: TB) rm_X6_behindLive 0 0 0 := cwV 0 hts (gV tb641 tb642 tb643 tb25 tb644) rfl rfl rfl ⟨rfl, by decide, by decide, by decide +kernel⟩ hR
def f_X6_isCatchingUp (v0_time v0_position : Int32) (r2 : Nat → Int32) (p0 : Int32) : Int32 :=
  if (rm32 v0_time 10) = 0 then
    if (f_X8_isLive r2) = 0 then
      0
    else
      if (f_X6_behindLive v0_time v0_position r2) ≤ (f_X8_valueOf r2 14) then
        0
      else
        if p0 < (f_X8_valueOf r2 5) then
          0
        else
          1
  else
    0
set_option maxHeartbeats 4000000 in
set_option maxRecDepth 100000 in
theorem c_X6_isCatchingUp (l : Launch) (D : va_G) (cI cJ cC : ClassId) (h0 h1 h2 kthis_video kthis_audio kthis_samples kthis_download kthis_accounts kthis_line kthis_stream_video kthis_stream_audio kthis_stream_plan : Nat) (v0_mode v0_startThreshold v0_lastRung v0_lastChange v0_state v0_time v0_position : Int32) (r2 : Nat → Int32) (p0 : Int32) (t0 : Int32) (h : f_X6_isCatchingUp v0_time v0_position r2 p0 = t0) : Met l yX6_isCatchingUp (Cond.code yX6_isCatchingUp cX6_isCatchingUp 2 (some .boolean) :: TB) rm_X6_isCatchingUp (PreR D cI cJ cC [(h0, .inr (6, [.ref h1, .ref kthis_video, .ref kthis_audio, .ref kthis_samples, .ref kthis_download, .ref kthis_accounts, .ref kthis_line, .int v0_mode, .int v0_startThreshold, .int v0_lastRung, .int v0_lastChange, .int v0_state, .int v0_time, .int v0_position])), (h1, .inr (8, [.ref h2, .ref kthis_stream_video, .ref kthis_stream_audio, .ref kthis_stream_plan])), (h2, .inl (cI, 15, .inl r2))] [.ref h0, .int p0]) (QR (some (.int t0))) 0 0 free0 := by
  refine metR (own := RX6) (by decide) rfl (Nat.le_of_ble_eq_true rfl) ?_
  intro p e s m below meth c S hr hlk hP hK ls hl
  have hx := S.1
  have hb := S.2.1
  have hl : lv_has ls 2 [(0, .ref h0), (1, .int p0)] := hl
  refine lv_aload_n hx hb dX6_isCatchingUp_0 rfl (lv_at hl 0 rfl) ?_
  refine gf_X6_79 (v := .int v0_time) S hK hP 0 rfl rfl dX6_isCatchingUp_1 ?_
  refine lv_bipush (v := 10) hx hb dX6_isCatchingUp_4 lb_10 ?_
  refine remw_i hx hb dX6_isCatchingUp_6 nzi_10 ?_
  refine lv_if_ne (tgt := 52) hx hb dX6_isCatchingUp_7 (by decide) (fun c1 => ?_) (fun c1 => ?_)
  · have h := iteN c1 h
    refine lv_iconst (v := 0) hx hb dX6_isCatchingUp_52 li_0 ?_
    subst h
    exact rRz S hr hlk (by decide) dX6_isCatchingUp_53
  · have h := iteP c1 h
    refine lv_aload_n hx hb dX6_isCatchingUp_10 rfl (lv_at hl 0 rfl) ?_
    refine gf_X6_53 (v := .ref h1) S hK hP 0 rfl rfl dX6_isCatchingUp_11 ?_
    refine rdV (pc1 := 17) (rest := []) (st1 := [.int (f_X8_isLive r2)]) S (c_X8_isLive l D cI cJ cC h1 h2 kthis_stream_video kthis_stream_audio kthis_stream_plan r2  _ rfl) (cw_X6_277 S.2.2.2.2 ⟨Nat.le_of_ble_eq_true rfl, Nat.le_of_ble_eq_true rfl⟩) hK (hP.sub [1, 2] rfl) rfl rfl rfl rfl hl.1 rfl (Nat.le_of_ble_eq_true rfl) ⟨Nat.zero_le _, Nat.zero_le _⟩ rfl rfl dX6_isCatchingUp_14 ?_
    refine lv_if_eq (tgt := 52) hx hb dX6_isCatchingUp_17 (by decide) (fun c2 => ?_) (fun c2 => ?_)
    · have h := iteP c2 h
      refine lv_iconst (v := 0) hx hb dX6_isCatchingUp_52 li_0 ?_
      subst h
      exact rRz S hr hlk (by decide) dX6_isCatchingUp_53
    · have h := iteN c2 h
      refine lv_aload_n hx hb dX6_isCatchingUp_20 rfl (lv_at hl 0 rfl) ?_
      refine rdV (pc1 := 24) (rest := []) (st1 := [.int (f_X6_behindLive v0_time v0_position r2)]) S (c_X6_behindLive l D cI cJ cC h0 h1 h2 kthis_video kthis_audio kthis_samples kthis_download kthis_accounts kthis_line kthis_stream_video kthis_stream_audio kthis_stream_plan v0_mode v0_startThreshold v0_lastRung v0_lastChange v0_state v0_time v0_position r2  _ rfl) (cw_X6_280 S.2.2.2.2 ⟨Nat.le_of_ble_eq_true rfl, Nat.le_of_ble_eq_true rfl⟩) hK (hP.sub [0, 1, 2] rfl) rfl rfl rfl rfl hl.1 rfl (Nat.le_of_ble_eq_true rfl) ⟨Nat.zero_le _, Nat.zero_le _⟩ rfl rfl dX6_isCatchingUp_21 ?_
      refine lv_aload_n hx hb dX6_isCatchingUp_24 rfl (lv_at hl 0 rfl) ?_
      refine gf_X6_53 (v := .ref h1) S hK hP 0 rfl rfl dX6_isCatchingUp_25 ?_
      refine lv_bipush (v := 14) hx hb dX6_isCatchingUp_28 lb_14 ?_
      refine rdV (pc1 := 33) (rest := [.int (f_X6_behindLive v0_time v0_position r2)]) (st1 := [.int (f_X8_valueOf r2 14), .int (f_X6_behindLive v0_time v0_position r2)]) S (c_X8_valueOf l D cI cJ cC h1 h2 kthis_stream_video kthis_stream_audio kthis_stream_plan r2 14 _ rfl) (cw_X6_176 S.2.2.2.2 ⟨Nat.le_of_ble_eq_true rfl, Nat.le_of_ble_eq_true rfl⟩) hK (hP.sub [1, 2] rfl) rfl rfl rfl rfl hl.1 rfl (Nat.le_of_ble_eq_true rfl) ⟨Nat.zero_le _, Nat.zero_le _⟩ rfl rfl dX6_isCatchingUp_30 ?_
      refine lv_icmp_le (tgt := 52) hx hb dX6_isCatchingUp_33 (by decide) (fun c3 => ?_) (fun c3 => ?_)
      · have h := iteP c3 h
        refine lv_iconst (v := 0) hx hb dX6_isCatchingUp_52 li_0 ?_
        subst h
        exact rRz S hr hlk (by decide) dX6_isCatchingUp_53
      · have h := iteN c3 h
        refine lv_iload_n hx hb dX6_isCatchingUp_36 rfl (lv_at hl 1 rfl) ?_
        refine lv_aload_n hx hb dX6_isCatchingUp_37 rfl (lv_at hl 0 rfl) ?_
        refine gf_X6_53 (v := .ref h1) S hK hP 0 rfl rfl dX6_isCatchingUp_38 ?_
        refine lv_iconst (v := 5) hx hb dX6_isCatchingUp_41 li_5 ?_
        refine rdV (pc1 := 45) (rest := [.int p0]) (st1 := [.int (f_X8_valueOf r2 5), .int p0]) S (c_X8_valueOf l D cI cJ cC h1 h2 kthis_stream_video kthis_stream_audio kthis_stream_plan r2 5 _ rfl) (cw_X6_176 S.2.2.2.2 ⟨Nat.le_of_ble_eq_true rfl, Nat.le_of_ble_eq_true rfl⟩) hK (hP.sub [1, 2] rfl) rfl rfl rfl rfl hl.1 rfl (Nat.le_of_ble_eq_true rfl) ⟨Nat.zero_le _, Nat.zero_le _⟩ rfl rfl dX6_isCatchingUp_42 ?_
        refine lv_icmp_lt (tgt := 52) hx hb dX6_isCatchingUp_45 (by decide) (fun c4 => ?_) (fun c4 => ?_)
        · have h := iteP c4 h
          refine lv_iconst (v := 0) hx hb dX6_isCatchingUp_52 li_0 ?_
          subst h
          exact rRz S hr hlk (by decide) dX6_isCatchingUp_53
        · have h := iteN c4 h
          refine lv_iconst (v := 1) hx hb dX6_isCatchingUp_48 li_1 ?_
          refine lv_goto (tgt := 53) hx hb dX6_isCatchingUp_49 (by decide) ?_
          subst h
          exact rRz S hr hlk (by decide) dX6_isCatchingUp_53
abbrev rm_X6_play : Room := { frames := 3, cells := 0, slots := 0, locals := 63 }
theorem dX6_play_0 : decode cX6_play 0 = .ok (.aload_n 0, 1) := by decide +kernel
theorem dX6_play_1 : decode cX6_play 1 = .ok (.invokevirtual 251, 3) := by decide +kernel
theorem dX6_play_4 : decode cX6_play 4 = .ok (.istore_n 1, 1) := by decide +kernel
theorem dX6_play_5 : decode cX6_play 5 = .ok (.iload_n 1, 1) := by decide +kernel
theorem dX6_play_6 : decode cX6_play 6 = .ok (.ifCond .ne 8, 3) := by decide +kernel
theorem dX6_play_9 : decode cX6_play 9 = .ok (.aload_n 0, 1) := by decide +kernel
theorem dX6_play_10 : decode cX6_play 10 = .ok (.invokevirtual 260, 3) := by decide +kernel
theorem dX6_play_13 : decode cX6_play 13 = .ok (.return_, 1) := by decide +kernel
theorem dX6_play_14 : decode cX6_play 14 = .ok (.aload_n 0, 1) := by decide +kernel
theorem dX6_play_15 : decode cX6_play 15 = .ok (.getfield 12, 3) := by decide +kernel
theorem dX6_play_18 : decode cX6_play 18 = .ok (.aload_n 0, 1) := by decide +kernel
theorem dX6_play_19 : decode cX6_play 19 = .ok (.getfield 53, 3) := by decide +kernel
theorem dX6_play_22 : decode cX6_play 22 = .ok (.aload_n 0, 1) := by decide +kernel
theorem dX6_play_23 : decode cX6_play 23 = .ok (.getfield 82, 3) := by decide +kernel
theorem dX6_play_26 : decode cX6_play 26 = .ok (.invokevirtual 132, 3) := by decide +kernel
theorem dX6_play_29 : decode cX6_play 29 = .ok (.invokevirtual 138, 3) := by decide +kernel
theorem dX6_play_32 : decode cX6_play 32 = .ok (.istore_n 2, 1) := by decide +kernel
theorem dX6_play_33 : decode cX6_play 33 = .ok (.aload_n 0, 1) := by decide +kernel
theorem dX6_play_34 : decode cX6_play 34 = .ok (.getfield 38, 3) := by decide +kernel
theorem dX6_play_37 : decode cX6_play 37 = .ok (.dup, 1) := by decide +kernel
theorem dX6_play_38 : decode cX6_play 38 = .ok (.getfield 263, 3) := by decide +kernel
theorem dX6_play_41 : decode cX6_play 41 = .ok (.aload_n 0, 1) := by decide +kernel
theorem dX6_play_42 : decode cX6_play 42 = .ok (.getfield 53, 3) := by decide +kernel
theorem dX6_play_45 : decode cX6_play 45 = .ok (.getfield 266, 3) := by decide +kernel
theorem dX6_play_48 : decode cX6_play 48 = .ok (.iload_n 2, 1) := by decide +kernel
theorem dX6_play_49 : decode cX6_play 49 = .ok (.invokevirtual 268, 3) := by decide +kernel
theorem dX6_play_52 : decode cX6_play 52 = .ok (.i2l, 1) := by decide +kernel
theorem dX6_play_53 : decode cX6_play 53 = .ok (.ladd, 1) := by decide +kernel
theorem dX6_play_54 : decode cX6_play 54 = .ok (.putfield 263, 3) := by decide +kernel
theorem dX6_play_57 : decode cX6_play 57 = .ok (.aload_n 0, 1) := by decide +kernel
theorem dX6_play_58 : decode cX6_play 58 = .ok (.dup, 1) := by decide +kernel
theorem dX6_play_59 : decode cX6_play 59 = .ok (.getfield 82, 3) := by decide +kernel
theorem dX6_play_62 : decode cX6_play 62 = .ok (.iload_n 1, 1) := by decide +kernel
theorem dX6_play_63 : decode cX6_play 63 = .ok (.iconst 2, 1) := by decide +kernel
theorem dX6_play_64 : decode cX6_play 64 = .ok (.if_icmp .lt 15, 3) := by decide +kernel
theorem dX6_play_67 : decode cX6_play 67 = .ok (.aload_n 0, 1) := by decide +kernel
theorem dX6_play_68 : decode cX6_play 68 = .ok (.iload_n 1, 1) := by decide +kernel
theorem dX6_play_69 : decode cX6_play 69 = .ok (.invokevirtual 271, 3) := by decide +kernel
theorem dX6_play_72 : decode cX6_play 72 = .ok (.ifCond .eq 7, 3) := by decide +kernel
theorem dX6_play_75 : decode cX6_play 75 = .ok (.iconst 2, 1) := by decide +kernel
theorem dX6_play_76 : decode cX6_play 76 = .ok (.goto 4, 3) := by decide +kernel
theorem dX6_play_79 : decode cX6_play 79 = .ok (.iconst 1, 1) := by decide +kernel
theorem dX6_play_80 : decode cX6_play 80 = .ok (.iadd, 1) := by decide +kernel
theorem dX6_play_81 : decode cX6_play 81 = .ok (.putfield 82, 3) := by decide +kernel
theorem dX6_play_84 : decode cX6_play 84 = .ok (.return_, 1) := by decide +kernel
theorem gf_X6_263 {p : Program} {l : Launch} {e : Env} {R : Room} {s : State} {m : MethodId} {args : Array Value} {below : List Frame} {meth : Method} {c : Code} {H : Heap} {locs : List Loc} {cells slots : Nat} {Q : State → Prop} {cc : ByteArray} {pc nL : Nat} {ls : Array Slot} {rest : List Value} {D : va_G} {ws : va_W} {tys : List (ClassId × FieldType)} (S : CallFix p m c cc nL s args TB RX6) (hK : va_K D vwCl tys s) (hP : va_P D vwCl ws H) (q0 : Nat) {a : Nat} {fs : List Value} (he : ws[q0]? = some (a, .inr (0, fs))) {v : Value} (hv : fs[8]? = some v) (hdg : decode cc pc = .ok (.getfield 263, 3))
    (kk : W p l e R s m args below meth c H locs cells slots Q (F0 m (pc + 3) ls (v :: rest))) : W p l e R s m args below meth c H locs cells slots Q (F0 m pc ls (.ref a :: rest)) :=
  va_get (D := D) (ci := 0) (C := RX0) (T := TX0) (N := 9) S.1 S.2.1 S.2.2.2.2 iwX0 S.2.2.2.1 hK hP q0 he rfl 8 (by decide) (S.2.2.2.2 _ tb210) (fun _ h9 => h9) hv hdg kk
theorem pf_X6_263 {p : Program} {l : Launch} {e : Env} {R : Room} {s : State} {m : MethodId} {args : Array Value} {below : List Frame} {meth : Method} {c : Code} {H H0 : Heap} {locs : List Loc} {cells slots : Nat} {Q : State → Prop} {cc : ByteArray} {pc nL : Nat} {ls : Array Slot} {rest : List Value} {D : va_G} {ws : va_W} {tys : List (ClassId × FieldType)} {A : Nat → Prop} {x9 : Int64} {v : Value} (S : CallFix p m c cc nL s args TB RX6) (hK : va_K D vwCl tys s) (hP : va_P D vwCl ws H) (hD : va_D A ws) (hS : va_S A H0 H locs) (q0 : Nat) {a : Nat} {fs : List Value} (he : ws[q0]? = some (a, .inr (0, fs))) (hle : 8 < fs.length) (hv9 : v = .long x9) (hdg : decode cc pc = .ok (.putfield 263, 3))
    (kk : ∀ (H1 : Heap) (locs1 : List Loc), va_P D vwCl (ws.set q0 (a, .inr (0, fs.set 8 v))) H1 → va_D A (ws.set q0 (a, .inr (0, fs.set 8 v))) → va_S A H0 H1 locs1 → W p l e R s m args below meth c H1 locs1 cells slots Q (F0 m (pc + 3) ls rest)) : W p l e R s m args below meth c H locs cells slots Q (F0 m pc ls (v :: .ref a :: rest)) := by
  subst hv9
  exact va_put (D := D) (ci := 0) (ty := .long) (C := RX0) (T := TX0) (N := 9) S.1 S.2.1 S.2.2.2.2 iwX0 tyX0 tyX0_ok nmX0 S.2.2.2.1 hK hP hD hS q0 he rfl 8 (by decide) (S.2.2.2.2 _ tb210) (fun _ h9 => h9) rfl (by decide +kernel) rfl rfl hle hdg kk
theorem cw_X6_271 {R : Room} {s : State} {args : Array Value} (hts : ∀ w ∈ TB, w.before args s = true) (hR : rm_X6_isCatchingUp.frames + 1 ≤ R.frames ∧ 8 + (2 + 11) + rm_X6_isCatchingUp.locals ≤ R.locals) : CallW R s args RX6 RX6 271 yX6_isCatchingUp cX6_isCatchingUp 2 (some .boolean) (Cond.code yX6_isCatchingUp cX6_isCatchingUp 2 (some .boolean) :: TB) rm_X6_isCatchingUp 0 0 1 := cwV 1 hts (gV tb634 tb635 tb18 tb25 tb636) rfl rfl rfl ⟨rfl, by decide, by decide, by decide +kernel⟩ hR
theorem cw_X6_260 {R : Room} {s : State} {args : Array Value} (hts : ∀ w ∈ TB, w.before args s = true) (hR : rm_X6_leavePlaying.frames + 1 ≤ R.frames ∧ 8 + (1 + 11) + rm_X6_leavePlaying.locals ≤ R.locals) : CallW R s args RX6 RX6 260 yX6_leavePlaying cX6_leavePlaying 1 none (Cond.code yX6_leavePlaying cX6_leavePlaying 1 none :: TB) rm_X6_leavePlaying 0 0 0 := cwV 0 hts (gV tb631 tb632 tb17 tb25 tb633) rfl rfl rfl ⟨rfl, by decide, by decide, by decide +kernel⟩ hR
def f_X6_play (v0_state v0_time v0_position v1_stalls : Int32) (v1_quality : Int64) (v2_segments v4_rungs : Int32) (r5 : Nat → Int32) (v6_rungs : Int32) (r7 : Nat → Int32) (v8_segments : Int32) (r9 : Nat → Int32) : Int32 × Int32 × Int32 × Int64 :=
  bnd (f_X6_smallestBuffer v0_position v2_segments v4_rungs r5 v6_rungs v8_segments) fun (y1 : Int32) =>
  if y1 = 0 then
    bnd2 (f_X6_leavePlaying v0_position v1_stalls r5) fun (y7 : Int32) (y8 : Int32) =>
    (y7, v0_position, y8, v1_quality)
  else
    bnd (f_X7_rungAt v8_segments r9 (f_X8_segmentAt r5 v0_position)) fun (y3 : Int32) =>
    bnd (v1_quality + ((f_X2_rateOf r7 y3).toInt64)) fun (z4 : Int64) =>
    if y1 < 2 then
      (v0_state, v0_position + 1, v1_stalls, z4)
    else
      if (f_X6_isCatchingUp v0_time v0_position r5 y1) = 0 then
        (v0_state, v0_position + 1, v1_stalls, z4)
      else
        (v0_state, v0_position + 2, v1_stalls, z4)
set_option maxHeartbeats 4000000 in
set_option maxRecDepth 100000 in
theorem c_X6_play (l : Launch) (D : va_G) (cI cJ cC : ClassId) (h0 h1 h2 h3 h4 h5 h6 h7 h8 h9 kthis_samples kthis_download kthis_line kthis_audio_rungs kthis_stream_plan kthis_stream_audio_rates : Nat) (v0_mode v0_startThreshold v0_lastRung v0_lastChange v0_state v0_time v0_position v1_startUpTime v1_stallTime v1_playTime v1_stalls v1_abandoned v1_finished v1_switches : Int32) (v1_wasted v1_quality : Int64) (v2_segments v4_most v4_rungs : Int32) (r5 : Nat → Int32) (v6_most v6_rungs : Int32) (r7 : Nat → Int32) (v8_segments : Int32) (r9 : Nat → Int32) (sz : Nat)  (T : Int32 × Int32 × Int32 × Int64) (h : f_X6_play v0_state v0_time v0_position v1_stalls v1_quality v2_segments v4_rungs r5 v6_rungs r7 v8_segments r9 = T) : Met l yX6_play (Cond.code yX6_play cX6_play 3 none :: TB) rm_X6_play (PreW D cI cJ cC [(h0, .inr (6, [.ref h3, .ref h8, .ref h2, .ref kthis_samples, .ref kthis_download, .ref h1, .ref kthis_line, .int v0_mode, .int v0_startThreshold, .int v0_lastRung, .int v0_lastChange, .int v0_state, .int v0_time, .int v0_position])), (h1, .inr (0, [.int v1_startUpTime, .int v1_stallTime, .int v1_playTime, .int v1_stalls, .int v1_abandoned, .int v1_finished, .int v1_switches, .long v1_wasted, .long v1_quality])), (h2, .inr (7, [.ref kthis_audio_rungs, .int v2_segments])), (h3, .inr (8, [.ref h5, .ref h6, .ref h4, .ref kthis_stream_plan])), (h4, .inr (2, [.ref kthis_stream_audio_rates, .int v4_most, .int v4_rungs])), (h5, .inl (cI, 15, .inl r5)), (h6, .inr (2, [.ref h7, .int v6_most, .int v6_rungs])), (h7, .inl (cI, 6, .inl r7)), (h8, .inr (7, [.ref h9, .int v8_segments])), (h9, .inl (cI, 200, .inl r9))] sz [.ref h0]) (QW none D [(h0, .inr (6, [.ref h3, .ref h8, .ref h2, .ref kthis_samples, .ref kthis_download, .ref h1, .ref kthis_line, .int v0_mode, .int v0_startThreshold, .int v0_lastRung, .int v0_lastChange, .int T.1, .int v0_time, .int T.2.1])), (h1, .inr (0, [.int v1_startUpTime, .int v1_stallTime, .int v1_playTime, .int T.2.2.1, .int v1_abandoned, .int v1_finished, .int v1_switches, .long v1_wasted, .long T.2.2.2])), (h2, .inr (7, [.ref kthis_audio_rungs, .int v2_segments])), (h3, .inr (8, [.ref h5, .ref h6, .ref h4, .ref kthis_stream_plan])), (h4, .inr (2, [.ref kthis_stream_audio_rates, .int v4_most, .int v4_rungs])), (h5, .inl (cI, 15, .inl r5)), (h6, .inr (2, [.ref h7, .int v6_most, .int v6_rungs])), (h7, .inl (cI, 6, .inl r7)), (h8, .inr (7, [.ref h9, .int v8_segments])), (h9, .inl (cI, 200, .inl r9))] (va_A [(h0, .inr (6, [.ref h3, .ref h8, .ref h2, .ref kthis_samples, .ref kthis_download, .ref h1, .ref kthis_line, .int v0_mode, .int v0_startThreshold, .int v0_lastRung, .int v0_lastChange, .int v0_state, .int v0_time, .int v0_position])), (h1, .inr (0, [.int v1_startUpTime, .int v1_stallTime, .int v1_playTime, .int v1_stalls, .int v1_abandoned, .int v1_finished, .int v1_switches, .long v1_wasted, .long v1_quality])), (h2, .inr (7, [.ref kthis_audio_rungs, .int v2_segments])), (h3, .inr (8, [.ref h5, .ref h6, .ref h4, .ref kthis_stream_plan])), (h4, .inr (2, [.ref kthis_stream_audio_rates, .int v4_most, .int v4_rungs])), (h5, .inl (cI, 15, .inl r5)), (h6, .inr (2, [.ref h7, .int v6_most, .int v6_rungs])), (h7, .inl (cI, 6, .inl r7)), (h8, .inr (7, [.ref h9, .int v8_segments])), (h9, .inl (cI, 200, .inl r9))] sz)) 0 0 (va_A [(h0, .inr (6, [.ref h3, .ref h8, .ref h2, .ref kthis_samples, .ref kthis_download, .ref h1, .ref kthis_line, .int v0_mode, .int v0_startThreshold, .int v0_lastRung, .int v0_lastChange, .int v0_state, .int v0_time, .int v0_position])), (h1, .inr (0, [.int v1_startUpTime, .int v1_stallTime, .int v1_playTime, .int v1_stalls, .int v1_abandoned, .int v1_finished, .int v1_switches, .long v1_wasted, .long v1_quality])), (h2, .inr (7, [.ref kthis_audio_rungs, .int v2_segments])), (h3, .inr (8, [.ref h5, .ref h6, .ref h4, .ref kthis_stream_plan])), (h4, .inr (2, [.ref kthis_stream_audio_rates, .int v4_most, .int v4_rungs])), (h5, .inl (cI, 15, .inl r5)), (h6, .inr (2, [.ref h7, .int v6_most, .int v6_rungs])), (h7, .inl (cI, 6, .inl r7)), (h8, .inr (7, [.ref h9, .int v8_segments])), (h9, .inl (cI, 200, .inl r9))] sz) := by
  refine metW (own := RX6) (by decide) rfl (Nat.le_of_ble_eq_true rfl) ?_
  intro p e s m below meth c S hr hlk hP hK A hAe hD hA hS ls hl
  clear hAe
  have hx := S.1
  have hb := S.2.1
  have hl : lv_has ls 3 [(0, .ref h0)] := hl
  refine lv_aload_n hx hb dX6_play_0 rfl (lv_at hl 0 rfl) ?_
  refine rdV (pc1 := 4) (rest := []) (st1 := [.int (f_X6_smallestBuffer v0_position v2_segments v4_rungs r5 v6_rungs v8_segments)]) S (c_X6_smallestBuffer l D cI cJ cC h0 h2 h3 h4 h5 h6 h8 kthis_samples kthis_download h1 kthis_line kthis_audio_rungs kthis_stream_plan kthis_stream_audio_rates h7 h9 v0_mode v0_startThreshold v0_lastRung v0_lastChange v0_state v0_time v0_position v2_segments v4_most v4_rungs r5 v6_most v6_rungs v8_segments  _ rfl) (cw_X6_251 S.2.2.2.2 ⟨Nat.le_of_ble_eq_true rfl, Nat.le_of_ble_eq_true rfl⟩) hK (hP.sub [0, 2, 3, 4, 5, 6, 8] rfl) rfl rfl rfl rfl hl.1 rfl (Nat.le_of_ble_eq_true rfl) ⟨Nat.zero_le _, Nat.zero_le _⟩ rfl rfl dX6_play_1 ?_
  refine lv_topi (fun y1 e_y1 => ?_)
  have h := bnd_eq e_y1.symm h
  refine lv_istore_n (lv' := [(1, .int y1), (0, .ref h0)]) hx hb dX6_play_4 rfl hl (by decide) rfl (fun ls hl => ?_)
  refine lv_iload_n hx hb dX6_play_5 rfl (lv_at hl 0 rfl) ?_
  refine lv_if_ne (tgt := 14) hx hb dX6_play_6 (by decide) (fun c2 => ?_) (fun c2 => ?_)
  · have h := iteN c2 h
    refine lv_aload_n hx hb dX6_play_14 rfl (lv_at hl 1 rfl) ?_
    refine gf_X6_12 (v := .ref h8) S hK hP 0 rfl rfl dX6_play_15 ?_
    refine lv_aload_n hx hb dX6_play_18 rfl (lv_at hl 1 rfl) ?_
    refine gf_X6_53 (v := .ref h3) S hK hP 0 rfl rfl dX6_play_19 ?_
    refine lv_aload_n hx hb dX6_play_22 rfl (lv_at hl 1 rfl) ?_
    refine gf_X6_82 (v := .int v0_position) S hK hP 0 rfl rfl dX6_play_23 ?_
    refine rdV (pc1 := 29) (rest := [.ref h8]) (st1 := [.int (f_X8_segmentAt r5 v0_position), .ref h8]) S (c_X8_segmentAt l D cI cJ cC h3 h5 h6 h4 kthis_stream_plan r5 v0_position _ rfl) (cw_X6_132 S.2.2.2.2 ⟨Nat.le_of_ble_eq_true rfl, Nat.le_of_ble_eq_true rfl⟩) hK (hP.sub [3, 5] rfl) rfl rfl rfl rfl hl.1 rfl (Nat.le_of_ble_eq_true rfl) ⟨Nat.zero_le _, Nat.zero_le _⟩ rfl rfl dX6_play_26 ?_
    refine rdV (pc1 := 32) (rest := []) (st1 := [.int (f_X7_rungAt v8_segments r9 (f_X8_segmentAt r5 v0_position))]) S (c_X7_rungAt l D cI cJ cC h8 h9 v8_segments r9 (f_X8_segmentAt r5 v0_position) _ rfl) (cw_X6_138 S.2.2.2.2 ⟨Nat.le_of_ble_eq_true rfl, Nat.le_of_ble_eq_true rfl⟩) hK (hP.sub [8, 9] rfl) rfl rfl rfl rfl hl.1 rfl (Nat.le_of_ble_eq_true rfl) ⟨Nat.zero_le _, Nat.zero_le _⟩ rfl rfl dX6_play_29 ?_
    refine lv_topi (fun y3 e_y3 => ?_)
    have h := bnd_eq e_y3.symm h
    refine lv_istore_n (lv' := [(2, .int y3), (1, .int y1), (0, .ref h0)]) hx hb dX6_play_32 rfl hl (by decide) rfl (fun ls hl => ?_)
    refine lv_aload_n hx hb dX6_play_33 rfl (lv_at hl 2 rfl) ?_
    refine gf_X6_38 (v := .ref h1) S hK hP 0 rfl rfl dX6_play_34 ?_
    refine lv_dup hx hb dX6_play_37 rfl ?_
    refine gf_X6_263 (v := .long v1_quality) S hK hP 1 rfl rfl dX6_play_38 ?_
    refine lv_aload_n hx hb dX6_play_41 rfl (lv_at hl 2 rfl) ?_
    refine gf_X6_53 (v := .ref h3) S hK hP 0 rfl rfl dX6_play_42 ?_
    refine gf_X6_266 (v := .ref h6) S hK hP 3 rfl rfl dX6_play_45 ?_
    refine lv_iload_n hx hb dX6_play_48 rfl (lv_at hl 0 rfl) ?_
    refine rdV (pc1 := 52) (rest := [.long v1_quality, .ref h1]) (st1 := [.int (f_X2_rateOf r7 y3), .long v1_quality, .ref h1]) S (c_X2_rateOf l D cI cJ cC h6 h7 v6_most v6_rungs r7 y3 _ rfl) (cw_X6_268 S.2.2.2.2 ⟨Nat.le_of_ble_eq_true rfl, Nat.le_of_ble_eq_true rfl⟩) hK (hP.sub [6, 7] rfl) rfl rfl rfl rfl hl.1 rfl (Nat.le_of_ble_eq_true rfl) ⟨Nat.zero_le _, Nat.zero_le _⟩ rfl rfl dX6_play_49 ?_
    refine lv_i2l hx hb dX6_play_52 rfl ?_
    refine lv_ladd hx hb dX6_play_53 ?_
    refine lv_topl (fun z4 e_z4 => ?_)
    have h := bnd_eq e_z4.symm h
    refine pf_X6_263 (v := .long z4) S hK hP hD hS 1 rfl (Nat.le_of_ble_eq_true rfl) rfl dX6_play_54 (fun H locs hP hD hS => ?_)
    have hP : va_P D vwCl [(h0, .inr (6, [.ref h3, .ref h8, .ref h2, .ref kthis_samples, .ref kthis_download, .ref h1, .ref kthis_line, .int v0_mode, .int v0_startThreshold, .int v0_lastRung, .int v0_lastChange, .int v0_state, .int v0_time, .int v0_position])), (h1, .inr (0, [.int v1_startUpTime, .int v1_stallTime, .int v1_playTime, .int v1_stalls, .int v1_abandoned, .int v1_finished, .int v1_switches, .long v1_wasted, .long z4])), (h2, .inr (7, [.ref kthis_audio_rungs, .int v2_segments])), (h3, .inr (8, [.ref h5, .ref h6, .ref h4, .ref kthis_stream_plan])), (h4, .inr (2, [.ref kthis_stream_audio_rates, .int v4_most, .int v4_rungs])), (h5, .inl (cI, 15, .inl r5)), (h6, .inr (2, [.ref h7, .int v6_most, .int v6_rungs])), (h7, .inl (cI, 6, .inl r7)), (h8, .inr (7, [.ref h9, .int v8_segments])), (h9, .inl (cI, 200, .inl r9))] H := hP
    have hD : va_D A [(h0, .inr (6, [.ref h3, .ref h8, .ref h2, .ref kthis_samples, .ref kthis_download, .ref h1, .ref kthis_line, .int v0_mode, .int v0_startThreshold, .int v0_lastRung, .int v0_lastChange, .int v0_state, .int v0_time, .int v0_position])), (h1, .inr (0, [.int v1_startUpTime, .int v1_stallTime, .int v1_playTime, .int v1_stalls, .int v1_abandoned, .int v1_finished, .int v1_switches, .long v1_wasted, .long z4])), (h2, .inr (7, [.ref kthis_audio_rungs, .int v2_segments])), (h3, .inr (8, [.ref h5, .ref h6, .ref h4, .ref kthis_stream_plan])), (h4, .inr (2, [.ref kthis_stream_audio_rates, .int v4_most, .int v4_rungs])), (h5, .inl (cI, 15, .inl r5)), (h6, .inr (2, [.ref h7, .int v6_most, .int v6_rungs])), (h7, .inl (cI, 6, .inl r7)), (h8, .inr (7, [.ref h9, .int v8_segments])), (h9, .inl (cI, 200, .inl r9))] := hD
    refine lv_aload_n hx hb dX6_play_57 rfl (lv_at hl 2 rfl) ?_
    refine lv_dup hx hb dX6_play_58 rfl ?_
    refine gf_X6_82 (v := .int v0_position) S hK hP 0 rfl rfl dX6_play_59 ?_
    refine lv_iload_n hx hb dX6_play_62 rfl (lv_at hl 1 rfl) ?_
    refine lv_iconst (v := 2) hx hb dX6_play_63 li_2 ?_
    refine lv_icmp_lt (tgt := 79) hx hb dX6_play_64 (by decide) (fun c5 => ?_) (fun c5 => ?_)
    · have h := iteP c5 h
      refine lv_iconst (v := 1) hx hb dX6_play_79 li_1 ?_
      refine lv_iadd hx hb dX6_play_80 ?_
      refine pf_X6_82 (v := .int (v0_position + 1)) S hK hP hD hS 0 rfl (Nat.le_of_ble_eq_true rfl) rfl dX6_play_81 (fun H locs hP hD hS => ?_)
      have hP : va_P D vwCl [(h0, .inr (6, [.ref h3, .ref h8, .ref h2, .ref kthis_samples, .ref kthis_download, .ref h1, .ref kthis_line, .int v0_mode, .int v0_startThreshold, .int v0_lastRung, .int v0_lastChange, .int v0_state, .int v0_time, .int (v0_position + 1)])), (h1, .inr (0, [.int v1_startUpTime, .int v1_stallTime, .int v1_playTime, .int v1_stalls, .int v1_abandoned, .int v1_finished, .int v1_switches, .long v1_wasted, .long z4])), (h2, .inr (7, [.ref kthis_audio_rungs, .int v2_segments])), (h3, .inr (8, [.ref h5, .ref h6, .ref h4, .ref kthis_stream_plan])), (h4, .inr (2, [.ref kthis_stream_audio_rates, .int v4_most, .int v4_rungs])), (h5, .inl (cI, 15, .inl r5)), (h6, .inr (2, [.ref h7, .int v6_most, .int v6_rungs])), (h7, .inl (cI, 6, .inl r7)), (h8, .inr (7, [.ref h9, .int v8_segments])), (h9, .inl (cI, 200, .inl r9))] H := hP
      have hD : va_D A [(h0, .inr (6, [.ref h3, .ref h8, .ref h2, .ref kthis_samples, .ref kthis_download, .ref h1, .ref kthis_line, .int v0_mode, .int v0_startThreshold, .int v0_lastRung, .int v0_lastChange, .int v0_state, .int v0_time, .int (v0_position + 1)])), (h1, .inr (0, [.int v1_startUpTime, .int v1_stallTime, .int v1_playTime, .int v1_stalls, .int v1_abandoned, .int v1_finished, .int v1_switches, .long v1_wasted, .long z4])), (h2, .inr (7, [.ref kthis_audio_rungs, .int v2_segments])), (h3, .inr (8, [.ref h5, .ref h6, .ref h4, .ref kthis_stream_plan])), (h4, .inr (2, [.ref kthis_stream_audio_rates, .int v4_most, .int v4_rungs])), (h5, .inl (cI, 15, .inl r5)), (h6, .inr (2, [.ref h7, .int v6_most, .int v6_rungs])), (h7, .inl (cI, 6, .inl r7)), (h8, .inr (7, [.ref h9, .int v8_segments])), (h9, .inl (cI, 200, .inl r9))] := hD
      subst h
      exact wRv S hr hlk (hP.sub [0, 1, 2, 3, 4, 5, 6, 7, 8, 9] rfl) (hD.sub [0, 1, 2, 3, 4, 5, 6, 7, 8, 9] (by decide) rfl) hS dX6_play_84
    · have h := iteN c5 h
      refine lv_aload_n hx hb dX6_play_67 rfl (lv_at hl 2 rfl) ?_
      refine lv_iload_n hx hb dX6_play_68 rfl (lv_at hl 1 rfl) ?_
      refine rdV (pc1 := 72) (rest := [.int v0_position, .ref h0]) (st1 := [.int (f_X6_isCatchingUp v0_time v0_position r5 y1), .int v0_position, .ref h0]) S (c_X6_isCatchingUp l D cI cJ cC h0 h3 h5 h8 h2 kthis_samples kthis_download h1 kthis_line h6 h4 kthis_stream_plan v0_mode v0_startThreshold v0_lastRung v0_lastChange v0_state v0_time v0_position r5 y1 _ rfl) (cw_X6_271 S.2.2.2.2 ⟨Nat.le_of_ble_eq_true rfl, Nat.le_of_ble_eq_true rfl⟩) hK (hP.sub [0, 3, 5] rfl) rfl rfl rfl rfl hl.1 rfl (Nat.le_of_ble_eq_true rfl) ⟨Nat.zero_le _, Nat.zero_le _⟩ rfl rfl dX6_play_69 ?_
      refine lv_if_eq (tgt := 79) hx hb dX6_play_72 (by decide) (fun c6 => ?_) (fun c6 => ?_)
      · have h := iteP c6 h
        refine lv_iconst (v := 1) hx hb dX6_play_79 li_1 ?_
        refine lv_iadd hx hb dX6_play_80 ?_
        refine pf_X6_82 (v := .int (v0_position + 1)) S hK hP hD hS 0 rfl (Nat.le_of_ble_eq_true rfl) rfl dX6_play_81 (fun H locs hP hD hS => ?_)
        have hP : va_P D vwCl [(h0, .inr (6, [.ref h3, .ref h8, .ref h2, .ref kthis_samples, .ref kthis_download, .ref h1, .ref kthis_line, .int v0_mode, .int v0_startThreshold, .int v0_lastRung, .int v0_lastChange, .int v0_state, .int v0_time, .int (v0_position + 1)])), (h1, .inr (0, [.int v1_startUpTime, .int v1_stallTime, .int v1_playTime, .int v1_stalls, .int v1_abandoned, .int v1_finished, .int v1_switches, .long v1_wasted, .long z4])), (h2, .inr (7, [.ref kthis_audio_rungs, .int v2_segments])), (h3, .inr (8, [.ref h5, .ref h6, .ref h4, .ref kthis_stream_plan])), (h4, .inr (2, [.ref kthis_stream_audio_rates, .int v4_most, .int v4_rungs])), (h5, .inl (cI, 15, .inl r5)), (h6, .inr (2, [.ref h7, .int v6_most, .int v6_rungs])), (h7, .inl (cI, 6, .inl r7)), (h8, .inr (7, [.ref h9, .int v8_segments])), (h9, .inl (cI, 200, .inl r9))] H := hP
        have hD : va_D A [(h0, .inr (6, [.ref h3, .ref h8, .ref h2, .ref kthis_samples, .ref kthis_download, .ref h1, .ref kthis_line, .int v0_mode, .int v0_startThreshold, .int v0_lastRung, .int v0_lastChange, .int v0_state, .int v0_time, .int (v0_position + 1)])), (h1, .inr (0, [.int v1_startUpTime, .int v1_stallTime, .int v1_playTime, .int v1_stalls, .int v1_abandoned, .int v1_finished, .int v1_switches, .long v1_wasted, .long z4])), (h2, .inr (7, [.ref kthis_audio_rungs, .int v2_segments])), (h3, .inr (8, [.ref h5, .ref h6, .ref h4, .ref kthis_stream_plan])), (h4, .inr (2, [.ref kthis_stream_audio_rates, .int v4_most, .int v4_rungs])), (h5, .inl (cI, 15, .inl r5)), (h6, .inr (2, [.ref h7, .int v6_most, .int v6_rungs])), (h7, .inl (cI, 6, .inl r7)), (h8, .inr (7, [.ref h9, .int v8_segments])), (h9, .inl (cI, 200, .inl r9))] := hD
        subst h
        exact wRv S hr hlk (hP.sub [0, 1, 2, 3, 4, 5, 6, 7, 8, 9] rfl) (hD.sub [0, 1, 2, 3, 4, 5, 6, 7, 8, 9] (by decide) rfl) hS dX6_play_84
      · have h := iteN c6 h
        refine lv_iconst (v := 2) hx hb dX6_play_75 li_2 ?_
        refine lv_goto (tgt := 80) hx hb dX6_play_76 (by decide) ?_
        refine lv_iadd hx hb dX6_play_80 ?_
        refine pf_X6_82 (v := .int (v0_position + 2)) S hK hP hD hS 0 rfl (Nat.le_of_ble_eq_true rfl) rfl dX6_play_81 (fun H locs hP hD hS => ?_)
        have hP : va_P D vwCl [(h0, .inr (6, [.ref h3, .ref h8, .ref h2, .ref kthis_samples, .ref kthis_download, .ref h1, .ref kthis_line, .int v0_mode, .int v0_startThreshold, .int v0_lastRung, .int v0_lastChange, .int v0_state, .int v0_time, .int (v0_position + 2)])), (h1, .inr (0, [.int v1_startUpTime, .int v1_stallTime, .int v1_playTime, .int v1_stalls, .int v1_abandoned, .int v1_finished, .int v1_switches, .long v1_wasted, .long z4])), (h2, .inr (7, [.ref kthis_audio_rungs, .int v2_segments])), (h3, .inr (8, [.ref h5, .ref h6, .ref h4, .ref kthis_stream_plan])), (h4, .inr (2, [.ref kthis_stream_audio_rates, .int v4_most, .int v4_rungs])), (h5, .inl (cI, 15, .inl r5)), (h6, .inr (2, [.ref h7, .int v6_most, .int v6_rungs])), (h7, .inl (cI, 6, .inl r7)), (h8, .inr (7, [.ref h9, .int v8_segments])), (h9, .inl (cI, 200, .inl r9))] H := hP
        have hD : va_D A [(h0, .inr (6, [.ref h3, .ref h8, .ref h2, .ref kthis_samples, .ref kthis_download, .ref h1, .ref kthis_line, .int v0_mode, .int v0_startThreshold, .int v0_lastRung, .int v0_lastChange, .int v0_state, .int v0_time, .int (v0_position + 2)])), (h1, .inr (0, [.int v1_startUpTime, .int v1_stallTime, .int v1_playTime, .int v1_stalls, .int v1_abandoned, .int v1_finished, .int v1_switches, .long v1_wasted, .long z4])), (h2, .inr (7, [.ref kthis_audio_rungs, .int v2_segments])), (h3, .inr (8, [.ref h5, .ref h6, .ref h4, .ref kthis_stream_plan])), (h4, .inr (2, [.ref kthis_stream_audio_rates, .int v4_most, .int v4_rungs])), (h5, .inl (cI, 15, .inl r5)), (h6, .inr (2, [.ref h7, .int v6_most, .int v6_rungs])), (h7, .inl (cI, 6, .inl r7)), (h8, .inr (7, [.ref h9, .int v8_segments])), (h9, .inl (cI, 200, .inl r9))] := hD
        subst h
        exact wRv S hr hlk (hP.sub [0, 1, 2, 3, 4, 5, 6, 7, 8, 9] rfl) (hD.sub [0, 1, 2, 3, 4, 5, 6, 7, 8, 9] (by decide) rfl) hS dX6_play_84
  · have h := iteP c2 h
    refine lv_aload_n hx hb dX6_play_9 rfl (lv_at hl 1 rfl) ?_
    obtain ⟨y7, y8, e_y7⟩ : ∃ a0 a1, f_X6_leavePlaying v0_position v1_stalls r5 = (a0, a1) := ⟨_, _, rfl⟩
    have h := bnd2_eq e_y7 h
    refine wrV (pc1 := 13) (rest := []) (st1 := []) (wr := [(h2, .inr (7, [.ref kthis_audio_rungs, .int v2_segments])), (h4, .inr (2, [.ref kthis_stream_audio_rates, .int v4_most, .int v4_rungs])), (h6, .inr (2, [.ref h7, .int v6_most, .int v6_rungs])), (h7, .inl (cI, 6, .inl r7)), (h8, .inr (7, [.ref h9, .int v8_segments])), (h9, .inl (cI, 200, .inl r9))]) S (c_X6_leavePlaying l D cI cJ cC h0 h1 h3 h5 h8 h2 kthis_samples kthis_download kthis_line h6 h4 kthis_stream_plan v0_mode v0_startThreshold v0_lastRung v0_lastChange v0_state v0_time v0_position v1_startUpTime v1_stallTime v1_playTime v1_stalls v1_abandoned v1_finished v1_switches v1_wasted v1_quality r5 s.heap.size  (y7, y8) e_y7) (cw_X6_260 S.2.2.2.2 ⟨Nat.le_of_ble_eq_true rfl, Nat.le_of_ble_eq_true rfl⟩) hK hP hD hS hA [0, 1, 3, 5] [2, 4, 6, 7, 8, 9] rfl rfl rfl (by decide) (by decide) (by decide) rfl rfl rfl rfl hl.1 rfl (Nat.le_of_ble_eq_true rfl) ⟨Nat.zero_le _, Nat.zero_le _⟩ rfl rfl dX6_play_10 (fun H locs hP hD hS => ?_)
    have hP : va_P D vwCl [(h2, .inr (7, [.ref kthis_audio_rungs, .int v2_segments])), (h4, .inr (2, [.ref kthis_stream_audio_rates, .int v4_most, .int v4_rungs])), (h6, .inr (2, [.ref h7, .int v6_most, .int v6_rungs])), (h7, .inl (cI, 6, .inl r7)), (h8, .inr (7, [.ref h9, .int v8_segments])), (h9, .inl (cI, 200, .inl r9)), (h0, .inr (6, [.ref h3, .ref h8, .ref h2, .ref kthis_samples, .ref kthis_download, .ref h1, .ref kthis_line, .int v0_mode, .int v0_startThreshold, .int v0_lastRung, .int v0_lastChange, .int y7, .int v0_time, .int v0_position])), (h1, .inr (0, [.int v1_startUpTime, .int v1_stallTime, .int v1_playTime, .int y8, .int v1_abandoned, .int v1_finished, .int v1_switches, .long v1_wasted, .long v1_quality])), (h3, .inr (8, [.ref h5, .ref h6, .ref h4, .ref kthis_stream_plan])), (h5, .inl (cI, 15, .inl r5))] H := hP
    have hD : va_D A [(h2, .inr (7, [.ref kthis_audio_rungs, .int v2_segments])), (h4, .inr (2, [.ref kthis_stream_audio_rates, .int v4_most, .int v4_rungs])), (h6, .inr (2, [.ref h7, .int v6_most, .int v6_rungs])), (h7, .inl (cI, 6, .inl r7)), (h8, .inr (7, [.ref h9, .int v8_segments])), (h9, .inl (cI, 200, .inl r9)), (h0, .inr (6, [.ref h3, .ref h8, .ref h2, .ref kthis_samples, .ref kthis_download, .ref h1, .ref kthis_line, .int v0_mode, .int v0_startThreshold, .int v0_lastRung, .int v0_lastChange, .int y7, .int v0_time, .int v0_position])), (h1, .inr (0, [.int v1_startUpTime, .int v1_stallTime, .int v1_playTime, .int y8, .int v1_abandoned, .int v1_finished, .int v1_switches, .long v1_wasted, .long v1_quality])), (h3, .inr (8, [.ref h5, .ref h6, .ref h4, .ref kthis_stream_plan])), (h5, .inl (cI, 15, .inl r5))] := hD
    subst h
    exact wRv S hr hlk (hP.sub [6, 7, 0, 8, 1, 9, 2, 3, 4, 5] rfl) (hD.sub [6, 7, 0, 8, 1, 9, 2, 3, 4, 5] (by decide) rfl) hS dX6_play_13
