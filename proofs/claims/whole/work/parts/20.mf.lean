abbrev rm_X10_counted : Room := { frames := 0, cells := 0, slots := 0, locals := 0 }
theorem dX10_counted_0 : decode cX10_counted 0 = .ok (.iload_n 1, 1) := by decide +kernel
theorem dX10_counted_1 : decode cX10_counted 1 = .ok (.iconst 3, 1) := by decide +kernel
theorem dX10_counted_2 : decode cX10_counted 2 = .ok (.if_icmp .ge 14, 3) := by decide +kernel
theorem dX10_counted_5 : decode cX10_counted 5 = .ok (.aload_n 0, 1) := by decide +kernel
theorem dX10_counted_6 : decode cX10_counted 6 = .ok (.getfield 25, 3) := by decide +kernel
theorem dX10_counted_9 : decode cX10_counted 9 = .ok (.bipush 18, 2) := by decide +kernel
theorem dX10_counted_11 : decode cX10_counted 11 = .ok (.iload_n 1, 1) := by decide +kernel
theorem dX10_counted_12 : decode cX10_counted 12 = .ok (.iadd, 1) := by decide +kernel
theorem dX10_counted_13 : decode cX10_counted 13 = .ok (.laload, 1) := by decide +kernel
theorem dX10_counted_14 : decode cX10_counted 14 = .ok (.l2i, 1) := by decide +kernel
theorem dX10_counted_15 : decode cX10_counted 15 = .ok (.ireturn, 1) := by decide +kernel
theorem dX10_counted_16 : decode cX10_counted 16 = .ok (.iconst 0, 1) := by decide +kernel
theorem dX10_counted_17 : decode cX10_counted 17 = .ok (.istore_n 2, 1) := by decide +kernel
theorem dX10_counted_18 : decode cX10_counted 18 = .ok (.iconst 1, 1) := by decide +kernel
theorem dX10_counted_19 : decode cX10_counted 19 = .ok (.istore_n 3, 1) := by decide +kernel
theorem dX10_counted_20 : decode cX10_counted 20 = .ok (.iload_n 3, 1) := by decide +kernel
theorem dX10_counted_21 : decode cX10_counted 21 = .ok (.i2l, 1) := by decide +kernel
theorem dX10_counted_22 : decode cX10_counted 22 = .ok (.aload_n 0, 1) := by decide +kernel
theorem dX10_counted_23 : decode cX10_counted 23 = .ok (.getfield 25, 3) := by decide +kernel
theorem dX10_counted_26 : decode cX10_counted 26 = .ok (.iconst 3, 1) := by decide +kernel
theorem dX10_counted_27 : decode cX10_counted 27 = .ok (.laload, 1) := by decide +kernel
theorem dX10_counted_28 : decode cX10_counted 28 = .ok (.lcmp, 1) := by decide +kernel
theorem dX10_counted_29 : decode cX10_counted 29 = .ok (.ifCond .ge 41, 3) := by decide +kernel
theorem dX10_counted_32 : decode cX10_counted 32 = .ok (.iload_n 2, 1) := by decide +kernel
theorem dX10_counted_33 : decode cX10_counted 33 = .ok (.aload_n 0, 1) := by decide +kernel
theorem dX10_counted_34 : decode cX10_counted 34 = .ok (.getfield 25, 3) := by decide +kernel
theorem dX10_counted_37 : decode cX10_counted 37 = .ok (.bipush 50, 2) := by decide +kernel
theorem dX10_counted_39 : decode cX10_counted 39 = .ok (.iload_n 3, 1) := by decide +kernel
theorem dX10_counted_40 : decode cX10_counted 40 = .ok (.iadd, 1) := by decide +kernel
theorem dX10_counted_41 : decode cX10_counted 41 = .ok (.laload, 1) := by decide +kernel
theorem dX10_counted_42 : decode cX10_counted 42 = .ok (.aload_n 0, 1) := by decide +kernel
theorem dX10_counted_43 : decode cX10_counted 43 = .ok (.getfield 25, 3) := by decide +kernel
theorem dX10_counted_46 : decode cX10_counted 46 = .ok (.bipush 50, 2) := by decide +kernel
theorem dX10_counted_48 : decode cX10_counted 48 = .ok (.iload_n 3, 1) := by decide +kernel
theorem dX10_counted_49 : decode cX10_counted 49 = .ok (.iadd, 1) := by decide +kernel
theorem dX10_counted_50 : decode cX10_counted 50 = .ok (.iconst 1, 1) := by decide +kernel
theorem dX10_counted_51 : decode cX10_counted 51 = .ok (.isub, 1) := by decide +kernel
theorem dX10_counted_52 : decode cX10_counted 52 = .ok (.laload, 1) := by decide +kernel
theorem dX10_counted_53 : decode cX10_counted 53 = .ok (.lcmp, 1) := by decide +kernel
theorem dX10_counted_54 : decode cX10_counted 54 = .ok (.ifCond .eq 7, 3) := by decide +kernel
theorem dX10_counted_57 : decode cX10_counted 57 = .ok (.iconst 1, 1) := by decide +kernel
theorem dX10_counted_58 : decode cX10_counted 58 = .ok (.goto 4, 3) := by decide +kernel
theorem dX10_counted_61 : decode cX10_counted 61 = .ok (.iconst 0, 1) := by decide +kernel
theorem dX10_counted_62 : decode cX10_counted 62 = .ok (.iadd, 1) := by decide +kernel
theorem dX10_counted_63 : decode cX10_counted 63 = .ok (.istore_n 2, 1) := by decide +kernel
theorem dX10_counted_64 : decode cX10_counted 64 = .ok (.iinc 3 1, 3) := by decide +kernel
theorem dX10_counted_67 : decode cX10_counted 67 = .ok (.goto (-47), 3) := by decide +kernel
theorem dX10_counted_70 : decode cX10_counted 70 = .ok (.iload_n 2, 1) := by decide +kernel
theorem dX10_counted_71 : decode cX10_counted 71 = .ok (.ireturn, 1) := by decide +kernel
def f_X10_counted_b20 (r1 : Nat → Int64) : Nat → Int32 → Int32 → Option Int32
  | 0, _, _ => none
  | n + 1, l2, l3 =>
    if (r1 3) ≤ l3.toInt64 then
      some l2
    else
      grd (vin (50 + l3) 760) <|
      grd (vin ((50 + l3) - 1) 760) <|
      if (r1 (50 + l3).toNatClampNeg) = (r1 ((50 + l3) - 1).toNatClampNeg) then
        f_X10_counted_b20 r1 n (l2 + 0) (l3 + 1)
      else
        f_X10_counted_b20 r1 n (l2 + 1) (l3 + 1)
def f_X10_counted (r1 : Nat → Int64) (p0 : Int32) : Option Int32 :=
  if 3 ≤ p0 then
    grd (decide ((r1 3).toInt ≤ 2147483647)) <|
    f_X10_counted_b20 r1 ((((r1 3).toInt - (1 : Int32).toInt).toNat) + 1) 0 1
  else
    grd (vin (18 + p0) 760) <|
    some ((r1 (18 + p0).toNatClampNeg).toInt32)
set_option maxHeartbeats 4000000 in
set_option maxRecDepth 100000 in
theorem k_X10_counted_b20 {p : Program} {l : Launch} {e : Env} {s : State} {m : MethodId} {args : Array Value} {below : List Frame} {meth : Method} {c : Code} {D : va_G} {cI cJ cC : ClassId} {h0 h1 kthis_p kthis_rates kthis_ladder kthis_lengths kthis_flows kthis_trial : Nat} {v0_phases v0_has v0_thrown : Int32} {r1 : Nat → Int64} {t0 : Int32}(S : CallFix p m c cX10_counted 4 s args TB RX10) (hr : meth.sig.returnType = (some .int)) (hlk : meth.locks = false) (hK : va_K D vwCl (ty3 cI cJ cC) s) (hP : va_P D vwCl [(h0, .inr (10, [.ref kthis_p, .ref kthis_rates, .ref kthis_ladder, .ref kthis_lengths, .ref kthis_flows, .int v0_phases, .ref h1, .ref kthis_trial, .int v0_has, .int v0_thrown])), (h1, .inl (cJ, 760, .inr (.inl r1)))] s.heap) : ∀ (n : Nat) (l2 l3 : Int32) (ls : Array Slot), (r1 3).toInt ≤ 2147483647 → ((r1 3).toInt - l3.toInt).toNat < n → f_X10_counted_b20 r1 n l2 l3 = some t0 → lv_has ls 4 [(0, .ref h0), (2, .int l2), (3, .int l3)] → W p l e rm_X10_counted s m args below meth c s.heap [] 0 0 (MQ below (QR (some (.int t0))) args s 0 0 free0) (F0 m 20 ls []) := by
  have hx := S.1
  have hb := S.2.1
  intro n
  induction n with
  | zero => intro l2 l3 ls hi0 hmu; exact absurd hmu (Nat.not_lt_zero _)
  | succ n ih =>
    intro l2 l3 ls hi0 hmu h hl
    refine lv_iload_n hx hb dX10_counted_20 rfl (lv_at hl 2 rfl) ?_
    refine lv_i2l hx hb dX10_counted_21 rfl ?_
    refine lv_aload_n hx hb dX10_counted_22 rfl (lv_at hl 0 rfl) ?_
    refine gf_X10_25 (v := .ref h1) S hK hP 0 rfl rfl dX10_counted_23 ?_
    refine lv_iconst (v := 3) hx hb dX10_counted_26 li_3 ?_
    refine aldJ (k := 3) (q0 := 1) S hK hP rfl vl_3_760 tn_3 dX10_counted_27 ?_
    refine lc_ge (tgt := 70) hx hb dX10_counted_28 dX10_counted_29 (by decide) (fun c1 => ?_) (fun c1 => ?_)
    · have h := iteP c1 h
      refine lv_iload_n hx hb dX10_counted_70 rfl (lv_at hl 1 rfl) ?_
      have h := Option.some.inj h
      subst h
      exact rRi S hr hlk dX10_counted_71
    · have h := iteN c1 h
      refine lv_iload_n hx hb dX10_counted_32 rfl (lv_at hl 1 rfl) ?_
      refine lv_aload_n hx hb dX10_counted_33 rfl (lv_at hl 0 rfl) ?_
      refine gf_X10_25 (v := .ref h1) S hK hP 0 rfl rfl dX10_counted_34 ?_
      refine lv_bipush (v := 50) hx hb dX10_counted_37 lb_50 ?_
      refine lv_iload_n hx hb dX10_counted_39 rfl (lv_at hl 2 rfl) ?_
      refine lv_iadd hx hb dX10_counted_40 ?_
      obtain ⟨g2, h⟩ := grd_eq h
      refine aldJ (k := (50 + l3).toNatClampNeg) (q0 := 1) S hK hP rfl (vin_in g2) rfl dX10_counted_41 ?_
      refine lv_aload_n hx hb dX10_counted_42 rfl (lv_at hl 0 rfl) ?_
      refine gf_X10_25 (v := .ref h1) S hK hP 0 rfl rfl dX10_counted_43 ?_
      refine lv_bipush (v := 50) hx hb dX10_counted_46 lb_50 ?_
      refine lv_iload_n hx hb dX10_counted_48 rfl (lv_at hl 2 rfl) ?_
      refine lv_iadd hx hb dX10_counted_49 ?_
      refine lv_iconst (v := 1) hx hb dX10_counted_50 li_1 ?_
      refine lv_isub hx hb dX10_counted_51 ?_
      obtain ⟨g3, h⟩ := grd_eq h
      refine aldJ (k := ((50 + l3) - 1).toNatClampNeg) (q0 := 1) S hK hP rfl (vin_in g3) rfl dX10_counted_52 ?_
      refine lc_eq (tgt := 61) hx hb dX10_counted_53 dX10_counted_54 (by decide) (fun c4 => ?_) (fun c4 => ?_)
      · have h := iteP c4 h
        refine lv_iconst (v := 0) hx hb dX10_counted_61 li_0 ?_
        refine lv_iadd hx hb dX10_counted_62 ?_
        refine lv_istore_n (lv' := [(2, .int (l2 + 0)), (0, .ref h0), (3, .int l3)]) hx hb dX10_counted_63 rfl hl (by decide) rfl (fun ls hl => ?_)
        refine lv_iinc (v := l3 + 1) (lv' := [(3, .int (l3 + 1)), (2, .int (l2 + 0)), (0, .ref h0)]) hx hb dX10_counted_64 hl (k := 2) rfl rfl (by decide) rfl (fun ls hl => ?_)
        refine lv_goto (tgt := 20) hx hb dX10_counted_67 (by decide) ?_
        exact ih (l2 + 0) (l3 + 1) _ (hi0) (by first | exact mu_il (by assumption) hi0 hmu | exact mu_il (nle64 (by assumption)) hi0 hmu) h  (lv_sub hl [2, 1, 0] rfl)
      · have h := iteN c4 h
        refine lv_iconst (v := 1) hx hb dX10_counted_57 li_1 ?_
        refine lv_goto (tgt := 62) hx hb dX10_counted_58 (by decide) ?_
        refine lv_iadd hx hb dX10_counted_62 ?_
        refine lv_istore_n (lv' := [(2, .int (l2 + 1)), (0, .ref h0), (3, .int l3)]) hx hb dX10_counted_63 rfl hl (by decide) rfl (fun ls hl => ?_)
        refine lv_iinc (v := l3 + 1) (lv' := [(3, .int (l3 + 1)), (2, .int (l2 + 1)), (0, .ref h0)]) hx hb dX10_counted_64 hl (k := 2) rfl rfl (by decide) rfl (fun ls hl => ?_)
        refine lv_goto (tgt := 20) hx hb dX10_counted_67 (by decide) ?_
        exact ih (l2 + 1) (l3 + 1) _ (hi0) (by first | exact mu_il (by assumption) hi0 hmu | exact mu_il (nle64 (by assumption)) hi0 hmu) h  (lv_sub hl [2, 1, 0] rfl)
set_option maxHeartbeats 4000000 in
set_option maxRecDepth 100000 in
theorem c_X10_counted (l : Launch) (D : va_G) (cI cJ cC : ClassId) (h0 h1 kthis_p kthis_rates kthis_ladder kthis_lengths kthis_flows kthis_trial : Nat) (v0_phases v0_has v0_thrown : Int32) (r1 : Nat → Int64) (p0 : Int32) (t0 : Int32) (h : f_X10_counted r1 p0 = some t0) : Met l yX10_counted (Cond.code yX10_counted cX10_counted 4 (some .int) :: TB) rm_X10_counted (PreR D cI cJ cC [(h0, .inr (10, [.ref kthis_p, .ref kthis_rates, .ref kthis_ladder, .ref kthis_lengths, .ref kthis_flows, .int v0_phases, .ref h1, .ref kthis_trial, .int v0_has, .int v0_thrown])), (h1, .inl (cJ, 760, .inr (.inl r1)))] [.ref h0, .int p0]) (QR (some (.int t0))) 0 0 free0 := by
  refine metR (own := RX10) (by decide) rfl (Nat.le_of_ble_eq_true rfl) ?_
  intro p e s m below meth c S hr hlk hP hK ls hl
  have hx := S.1
  have hb := S.2.1
  have hl : lv_has ls 4 [(0, .ref h0), (1, .int p0)] := hl
  refine lv_iload_n hx hb dX10_counted_0 rfl (lv_at hl 1 rfl) ?_
  refine lv_iconst (v := 3) hx hb dX10_counted_1 li_3 ?_
  refine lv_icmp_ge (tgt := 16) hx hb dX10_counted_2 (by decide) (fun c1 => ?_) (fun c1 => ?_)
  · have h := iteP c1 h
    refine lv_iconst (v := 0) hx hb dX10_counted_16 li_0 ?_
    refine lv_istore_n (lv' := [(2, .int 0), (0, .ref h0), (1, .int p0)]) hx hb dX10_counted_17 rfl hl (by decide) rfl (fun ls hl => ?_)
    refine lv_iconst (v := 1) hx hb dX10_counted_18 li_1 ?_
    refine lv_istore_n (lv' := [(3, .int 1), (2, .int 0), (0, .ref h0), (1, .int p0)]) hx hb dX10_counted_19 rfl hl (by decide) rfl (fun ls hl => ?_)
    obtain ⟨g2, h⟩ := grd_eq h
    exact k_X10_counted_b20 S hr hlk hK hP _ 0 1 _ (of_decide_eq_true g2) (Nat.lt_succ_self _) h  (lv_sub hl [2, 1, 0] rfl)
  · have h := iteN c1 h
    refine lv_aload_n hx hb dX10_counted_5 rfl (lv_at hl 0 rfl) ?_
    refine gf_X10_25 (v := .ref h1) S hK hP 0 rfl rfl dX10_counted_6 ?_
    refine lv_bipush (v := 18) hx hb dX10_counted_9 lb_18 ?_
    refine lv_iload_n hx hb dX10_counted_11 rfl (lv_at hl 1 rfl) ?_
    refine lv_iadd hx hb dX10_counted_12 ?_
    obtain ⟨g3, h⟩ := grd_eq h
    refine aldJ (k := (18 + p0).toNatClampNeg) (q0 := 1) S hK hP rfl (vin_in g3) rfl dX10_counted_13 ?_
    refine lv_l2i hx hb dX10_counted_14 rfl ?_
    have h := Option.some.inj h
    subst h
    exact rRi S hr hlk dX10_counted_15
abbrev rm_X10_count : Room := { frames := 1, cells := 0, slots := 0, locals := 25 }
theorem dX10_count_0 : decode cX10_count 0 = .ok (.aload_n 0, 1) := by decide +kernel
theorem dX10_count_1 : decode cX10_count 1 = .ok (.iload_n 1, 1) := by decide +kernel
theorem dX10_count_2 : decode cX10_count 2 = .ok (.i2l, 1) := by decide +kernel
theorem dX10_count_3 : decode cX10_count 3 = .ok (.lconst 0, 1) := by decide +kernel
theorem dX10_count_4 : decode cX10_count 4 = .ok (.ldc2_w 78, 3) := by decide +kernel
theorem dX10_count_7 : decode cX10_count 7 = .ok (.invokestatic 39, 3) := by decide +kernel
theorem dX10_count_10 : decode cX10_count 10 = .ok (.invokevirtual 183, 3) := by decide +kernel
theorem dX10_count_13 : decode cX10_count 13 = .ok (.ifCond .eq 7, 3) := by decide +kernel
theorem dX10_count_16 : decode cX10_count 16 = .ok (.iconst 0, 1) := by decide +kernel
theorem dX10_count_17 : decode cX10_count 17 = .ok (.goto 8, 3) := by decide +kernel
theorem dX10_count_20 : decode cX10_count 20 = .ok (.aload_n 0, 1) := by decide +kernel
theorem dX10_count_21 : decode cX10_count 21 = .ok (.iload_n 1, 1) := by decide +kernel
theorem dX10_count_22 : decode cX10_count 22 = .ok (.invokevirtual 190, 3) := by decide +kernel
theorem dX10_count_25 : decode cX10_count 25 = .ok (.ireturn, 1) := by decide +kernel
theorem cw_X10_190 {R : Room} {s : State} {args : Array Value} (hts : ∀ w ∈ TB, w.before args s = true) (hR : rm_X10_counted.frames + 1 ≤ R.frames ∧ 8 + (4 + 11) + rm_X10_counted.locals ≤ R.locals) : CallW R s args RX10 RX10 190 yX10_counted cX10_counted 4 (some .int) (Cond.code yX10_counted cX10_counted 4 (some .int) :: TB) rm_X10_counted 0 0 1 := cwV 1 hts (gV tb1190 tb1191 tb42 tb57 tb1192) rfl rfl rfl ⟨rfl, by decide, by decide, by decide +kernel⟩ hR
def f_X10_count (v0_has : Int32) (r1 : Nat → Int64) (p0 : Int32) : Option (Int32 × Int32) :=
  bnd2 (f_X10_isWrong v0_has (f_X10_in p0.toInt64 0 3)) fun (y1 : Int32) (y2 : Int32) =>
  if y1 = 0 then
    obnd (f_X10_counted r1 p0) fun (y4 : Int32) =>
    some (y4, y2)
  else
    some (0, y2)
set_option maxHeartbeats 4000000 in
set_option maxRecDepth 100000 in
theorem c_X10_count (l : Launch) (D : va_G) (cI cJ cC : ClassId) (h0 h1 kthis_p kthis_rates kthis_ladder kthis_lengths kthis_flows kthis_trial : Nat) (v0_phases v0_has v0_thrown : Int32) (r1 : Nat → Int64) (sz : Nat) (p0 : Int32) (T : Int32 × Int32) (h : f_X10_count v0_has r1 p0 = some T) : Met l yX10_count (Cond.code yX10_count cX10_count 2 (some .int) :: TB) rm_X10_count (PreW D cI cJ cC [(h0, .inr (10, [.ref kthis_p, .ref kthis_rates, .ref kthis_ladder, .ref kthis_lengths, .ref kthis_flows, .int v0_phases, .ref h1, .ref kthis_trial, .int v0_has, .int v0_thrown])), (h1, .inl (cJ, 760, .inr (.inl r1)))] sz [.ref h0, .int p0]) (QW (some (.int T.1)) D [(h0, .inr (10, [.ref kthis_p, .ref kthis_rates, .ref kthis_ladder, .ref kthis_lengths, .ref kthis_flows, .int v0_phases, .ref h1, .ref kthis_trial, .int v0_has, .int T.2])), (h1, .inl (cJ, 760, .inr (.inl r1)))] (va_A [(h0, .inr (10, [.ref kthis_p, .ref kthis_rates, .ref kthis_ladder, .ref kthis_lengths, .ref kthis_flows, .int v0_phases, .ref h1, .ref kthis_trial, .int v0_has, .int v0_thrown])), (h1, .inl (cJ, 760, .inr (.inl r1)))] sz)) 0 0 (va_A [(h0, .inr (10, [.ref kthis_p, .ref kthis_rates, .ref kthis_ladder, .ref kthis_lengths, .ref kthis_flows, .int v0_phases, .ref h1, .ref kthis_trial, .int v0_has, .int v0_thrown])), (h1, .inl (cJ, 760, .inr (.inl r1)))] sz) := by
  refine metW (own := RX10) (by decide) rfl (Nat.le_of_ble_eq_true rfl) ?_
  intro p e s m below meth c S hr hlk hP hK A hAe hD hA hS ls hl
  clear hAe
  have hx := S.1
  have hb := S.2.1
  have hl : lv_has ls 2 [(0, .ref h0), (1, .int p0)] := hl
  refine lv_aload_n hx hb dX10_count_0 rfl (lv_at hl 0 rfl) ?_
  refine lv_iload_n hx hb dX10_count_1 rfl (lv_at hl 1 rfl) ?_
  refine lv_i2l hx hb dX10_count_2 rfl ?_
  refine lv_lconst (v := 0) hx hb dX10_count_3 rfl ?_
  refine lv_ldc2 (v := 3) hx hb S.2.2.2.1 (S.2.2.2.2 _ tb1047) dX10_count_4 ?_
  refine rdS (pc1 := 10) (rest := [.ref h0]) (st1 := [.int (f_X10_in p0.toInt64 0 3), .ref h0]) S (c_X10_in l D cI cJ cC  p0.toInt64 0 3 _ rfl) (cw_X10_39 S.2.2.2.2 ⟨Nat.le_of_ble_eq_true rfl, Nat.le_of_ble_eq_true rfl⟩) hK (hP.sub [] rfl) rfl hl.1 rfl (Nat.le_of_ble_eq_true rfl) ⟨Nat.zero_le _, Nat.zero_le _⟩ rfl rfl dX10_count_7 ?_
  obtain ⟨y1, y2, e_y1⟩ : ∃ a0 a1, f_X10_isWrong v0_has (f_X10_in p0.toInt64 0 3) = (a0, a1) := ⟨_, _, rfl⟩
  have h := bnd2_eq e_y1 h
  refine wrV (pc1 := 13) (rest := []) (st1 := [.int y1]) (wr := [(h1, .inl (cJ, 760, .inr (.inl r1)))]) S (c_X10_isWrong l D cI cJ cC h0 kthis_p kthis_rates kthis_ladder kthis_lengths kthis_flows h1 kthis_trial v0_phases v0_has v0_thrown s.heap.size (f_X10_in p0.toInt64 0 3) (y1, y2) e_y1) (cw_X10_183 S.2.2.2.2 ⟨Nat.le_of_ble_eq_true rfl, Nat.le_of_ble_eq_true rfl⟩) hK hP hD hS hA [0] [1] rfl rfl rfl (by decide) (by decide) (by decide) rfl rfl rfl rfl hl.1 rfl (Nat.le_of_ble_eq_true rfl) ⟨Nat.zero_le _, Nat.zero_le _⟩ rfl rfl dX10_count_10 (fun H locs hP hD hS => ?_)
  have hP : va_P D vwCl [(h1, .inl (cJ, 760, .inr (.inl r1))), (h0, .inr (10, [.ref kthis_p, .ref kthis_rates, .ref kthis_ladder, .ref kthis_lengths, .ref kthis_flows, .int v0_phases, .ref h1, .ref kthis_trial, .int v0_has, .int y2]))] H := hP
  have hD : va_D A [(h1, .inl (cJ, 760, .inr (.inl r1))), (h0, .inr (10, [.ref kthis_p, .ref kthis_rates, .ref kthis_ladder, .ref kthis_lengths, .ref kthis_flows, .int v0_phases, .ref h1, .ref kthis_trial, .int v0_has, .int y2]))] := hD
  refine lv_if_eq (tgt := 20) hx hb dX10_count_13 (by decide) (fun c3 => ?_) (fun c3 => ?_)
  · have h := iteP c3 h
    refine lv_aload_n hx hb dX10_count_20 rfl (lv_at hl 0 rfl) ?_
    refine lv_iload_n hx hb dX10_count_21 rfl (lv_at hl 1 rfl) ?_
    obtain ⟨y4, e_y4, h⟩ := obnd_eq h
    refine rdV (pc1 := 25) (rest := []) (st1 := [.int y4]) S (c_X10_counted l D cI cJ cC h0 h1 kthis_p kthis_rates kthis_ladder kthis_lengths kthis_flows kthis_trial v0_phases v0_has y2 r1 p0 y4 e_y4) (cw_X10_190 S.2.2.2.2 ⟨Nat.le_of_ble_eq_true rfl, Nat.le_of_ble_eq_true rfl⟩) hK (hP.sub [1, 0] rfl) rfl rfl rfl rfl hl.1 rfl (Nat.le_of_ble_eq_true rfl) ⟨Nat.zero_le _, Nat.zero_le _⟩ rfl rfl dX10_count_22 ?_
    have h := Option.some.inj h
    subst h
    exact wRi S hr hlk (hP.sub [1, 0] rfl) (hD.sub [1, 0] (by decide) rfl) hS dX10_count_25
  · have h := iteN c3 h
    refine lv_iconst (v := 0) hx hb dX10_count_16 li_0 ?_
    refine lv_goto (tgt := 25) hx hb dX10_count_17 (by decide) ?_
    have h := Option.some.inj h
    subst h
    exact wRi S hr hlk (hP.sub [1, 0] rfl) (hD.sub [1, 0] (by decide) rfl) hS dX10_count_25
abbrev rm_X10_wasted : Room := { frames := 1, cells := 0, slots := 0, locals := 22 }
theorem dX10_wasted_0 : decode cX10_wasted 0 = .ok (.aload_n 0, 1) := by decide +kernel
theorem dX10_wasted_1 : decode cX10_wasted 1 = .ok (.aload_n 0, 1) := by decide +kernel
theorem dX10_wasted_2 : decode cX10_wasted 2 = .ok (.getfield 25, 3) := by decide +kernel
theorem dX10_wasted_5 : decode cX10_wasted 5 = .ok (.bipush 21, 2) := by decide +kernel
theorem dX10_wasted_7 : decode cX10_wasted 7 = .ok (.laload, 1) := by decide +kernel
theorem dX10_wasted_8 : decode cX10_wasted 8 = .ok (.invokevirtual 179, 3) := by decide +kernel
theorem dX10_wasted_11 : decode cX10_wasted 11 = .ok (.lreturn, 1) := by decide +kernel
def f_X10_wasted (v0_has : Int32) (r1 : Nat → Int64) : Int64 × Int32 :=
  bnd2 (f_X10_told v0_has (r1 21)) fun (z1 : Int64) (y2 : Int32) =>
  (z1, y2)
set_option maxHeartbeats 4000000 in
set_option maxRecDepth 100000 in
theorem c_X10_wasted (l : Launch) (D : va_G) (cI cJ cC : ClassId) (h0 h1 kthis_p kthis_rates kthis_ladder kthis_lengths kthis_flows kthis_trial : Nat) (v0_phases v0_has v0_thrown : Int32) (r1 : Nat → Int64) (sz : Nat)  (T : Int64 × Int32) (h : f_X10_wasted v0_has r1 = T) : Met l yX10_wasted (Cond.code yX10_wasted cX10_wasted 1 (some .long) :: TB) rm_X10_wasted (PreW D cI cJ cC [(h0, .inr (10, [.ref kthis_p, .ref kthis_rates, .ref kthis_ladder, .ref kthis_lengths, .ref kthis_flows, .int v0_phases, .ref h1, .ref kthis_trial, .int v0_has, .int v0_thrown])), (h1, .inl (cJ, 760, .inr (.inl r1)))] sz [.ref h0]) (QW (some (.long T.1)) D [(h0, .inr (10, [.ref kthis_p, .ref kthis_rates, .ref kthis_ladder, .ref kthis_lengths, .ref kthis_flows, .int v0_phases, .ref h1, .ref kthis_trial, .int v0_has, .int T.2])), (h1, .inl (cJ, 760, .inr (.inl r1)))] (va_A [(h0, .inr (10, [.ref kthis_p, .ref kthis_rates, .ref kthis_ladder, .ref kthis_lengths, .ref kthis_flows, .int v0_phases, .ref h1, .ref kthis_trial, .int v0_has, .int v0_thrown])), (h1, .inl (cJ, 760, .inr (.inl r1)))] sz)) 0 0 (va_A [(h0, .inr (10, [.ref kthis_p, .ref kthis_rates, .ref kthis_ladder, .ref kthis_lengths, .ref kthis_flows, .int v0_phases, .ref h1, .ref kthis_trial, .int v0_has, .int v0_thrown])), (h1, .inl (cJ, 760, .inr (.inl r1)))] sz) := by
  refine metW (own := RX10) (by decide) rfl (Nat.le_of_ble_eq_true rfl) ?_
  intro p e s m below meth c S hr hlk hP hK A hAe hD hA hS ls hl
  clear hAe
  have hx := S.1
  have hb := S.2.1
  have hl : lv_has ls 1 [(0, .ref h0)] := hl
  refine lv_aload_n hx hb dX10_wasted_0 rfl (lv_at hl 0 rfl) ?_
  refine lv_aload_n hx hb dX10_wasted_1 rfl (lv_at hl 0 rfl) ?_
  refine gf_X10_25 (v := .ref h1) S hK hP 0 rfl rfl dX10_wasted_2 ?_
  refine lv_bipush (v := 21) hx hb dX10_wasted_5 lb_21 ?_
  refine aldJ (k := 21) (q0 := 1) S hK hP rfl vl_21_760 tn_21 dX10_wasted_7 ?_
  obtain ⟨z1, y2, e_z1⟩ : ∃ a0 a1, f_X10_told v0_has (r1 21) = (a0, a1) := ⟨_, _, rfl⟩
  have h := bnd2_eq e_z1 h
  refine wrV (pc1 := 11) (rest := []) (st1 := [.long z1]) (wr := [(h1, .inl (cJ, 760, .inr (.inl r1)))]) S (c_X10_told l D cI cJ cC h0 kthis_p kthis_rates kthis_ladder kthis_lengths kthis_flows h1 kthis_trial v0_phases v0_has v0_thrown s.heap.size (r1 21) (z1, y2) e_z1) (cw_X10_179 S.2.2.2.2 ⟨Nat.le_of_ble_eq_true rfl, Nat.le_of_ble_eq_true rfl⟩) hK hP hD hS hA [0] [1] rfl rfl rfl (by decide) (by decide) (by decide) rfl rfl rfl rfl hl.1 rfl (Nat.le_of_ble_eq_true rfl) ⟨Nat.zero_le _, Nat.zero_le _⟩ rfl rfl dX10_wasted_8 (fun H locs hP hD hS => ?_)
  have hP : va_P D vwCl [(h1, .inl (cJ, 760, .inr (.inl r1))), (h0, .inr (10, [.ref kthis_p, .ref kthis_rates, .ref kthis_ladder, .ref kthis_lengths, .ref kthis_flows, .int v0_phases, .ref h1, .ref kthis_trial, .int v0_has, .int y2]))] H := hP
  have hD : va_D A [(h1, .inl (cJ, 760, .inr (.inl r1))), (h0, .inr (10, [.ref kthis_p, .ref kthis_rates, .ref kthis_ladder, .ref kthis_lengths, .ref kthis_flows, .int v0_phases, .ref h1, .ref kthis_trial, .int v0_has, .int y2]))] := hD
  subst h
  exact wRl S hr hlk (hP.sub [1, 0] rfl) (hD.sub [1, 0] (by decide) rfl) hS dX10_wasted_11
abbrev rm_X10_quality : Room := { frames := 1, cells := 0, slots := 0, locals := 22 }
theorem dX10_quality_0 : decode cX10_quality 0 = .ok (.aload_n 0, 1) := by decide +kernel
theorem dX10_quality_1 : decode cX10_quality 1 = .ok (.aload_n 0, 1) := by decide +kernel
theorem dX10_quality_2 : decode cX10_quality 2 = .ok (.getfield 25, 3) := by decide +kernel
theorem dX10_quality_5 : decode cX10_quality 5 = .ok (.bipush 22, 2) := by decide +kernel
theorem dX10_quality_7 : decode cX10_quality 7 = .ok (.laload, 1) := by decide +kernel
theorem dX10_quality_8 : decode cX10_quality 8 = .ok (.invokevirtual 179, 3) := by decide +kernel
theorem dX10_quality_11 : decode cX10_quality 11 = .ok (.lreturn, 1) := by decide +kernel
def f_X10_quality (v0_has : Int32) (r1 : Nat → Int64) : Int64 × Int32 :=
  bnd2 (f_X10_told v0_has (r1 22)) fun (z1 : Int64) (y2 : Int32) =>
  (z1, y2)
set_option maxHeartbeats 4000000 in
set_option maxRecDepth 100000 in
theorem c_X10_quality (l : Launch) (D : va_G) (cI cJ cC : ClassId) (h0 h1 kthis_p kthis_rates kthis_ladder kthis_lengths kthis_flows kthis_trial : Nat) (v0_phases v0_has v0_thrown : Int32) (r1 : Nat → Int64) (sz : Nat)  (T : Int64 × Int32) (h : f_X10_quality v0_has r1 = T) : Met l yX10_quality (Cond.code yX10_quality cX10_quality 1 (some .long) :: TB) rm_X10_quality (PreW D cI cJ cC [(h0, .inr (10, [.ref kthis_p, .ref kthis_rates, .ref kthis_ladder, .ref kthis_lengths, .ref kthis_flows, .int v0_phases, .ref h1, .ref kthis_trial, .int v0_has, .int v0_thrown])), (h1, .inl (cJ, 760, .inr (.inl r1)))] sz [.ref h0]) (QW (some (.long T.1)) D [(h0, .inr (10, [.ref kthis_p, .ref kthis_rates, .ref kthis_ladder, .ref kthis_lengths, .ref kthis_flows, .int v0_phases, .ref h1, .ref kthis_trial, .int v0_has, .int T.2])), (h1, .inl (cJ, 760, .inr (.inl r1)))] (va_A [(h0, .inr (10, [.ref kthis_p, .ref kthis_rates, .ref kthis_ladder, .ref kthis_lengths, .ref kthis_flows, .int v0_phases, .ref h1, .ref kthis_trial, .int v0_has, .int v0_thrown])), (h1, .inl (cJ, 760, .inr (.inl r1)))] sz)) 0 0 (va_A [(h0, .inr (10, [.ref kthis_p, .ref kthis_rates, .ref kthis_ladder, .ref kthis_lengths, .ref kthis_flows, .int v0_phases, .ref h1, .ref kthis_trial, .int v0_has, .int v0_thrown])), (h1, .inl (cJ, 760, .inr (.inl r1)))] sz) := by
  refine metW (own := RX10) (by decide) rfl (Nat.le_of_ble_eq_true rfl) ?_
  intro p e s m below meth c S hr hlk hP hK A hAe hD hA hS ls hl
  clear hAe
  have hx := S.1
  have hb := S.2.1
  have hl : lv_has ls 1 [(0, .ref h0)] := hl
  refine lv_aload_n hx hb dX10_quality_0 rfl (lv_at hl 0 rfl) ?_
  refine lv_aload_n hx hb dX10_quality_1 rfl (lv_at hl 0 rfl) ?_
  refine gf_X10_25 (v := .ref h1) S hK hP 0 rfl rfl dX10_quality_2 ?_
  refine lv_bipush (v := 22) hx hb dX10_quality_5 lb_22 ?_
  refine aldJ (k := 22) (q0 := 1) S hK hP rfl vl_22_760 tn_22 dX10_quality_7 ?_
  obtain ⟨z1, y2, e_z1⟩ : ∃ a0 a1, f_X10_told v0_has (r1 22) = (a0, a1) := ⟨_, _, rfl⟩
  have h := bnd2_eq e_z1 h
  refine wrV (pc1 := 11) (rest := []) (st1 := [.long z1]) (wr := [(h1, .inl (cJ, 760, .inr (.inl r1)))]) S (c_X10_told l D cI cJ cC h0 kthis_p kthis_rates kthis_ladder kthis_lengths kthis_flows h1 kthis_trial v0_phases v0_has v0_thrown s.heap.size (r1 22) (z1, y2) e_z1) (cw_X10_179 S.2.2.2.2 ⟨Nat.le_of_ble_eq_true rfl, Nat.le_of_ble_eq_true rfl⟩) hK hP hD hS hA [0] [1] rfl rfl rfl (by decide) (by decide) (by decide) rfl rfl rfl rfl hl.1 rfl (Nat.le_of_ble_eq_true rfl) ⟨Nat.zero_le _, Nat.zero_le _⟩ rfl rfl dX10_quality_8 (fun H locs hP hD hS => ?_)
  have hP : va_P D vwCl [(h1, .inl (cJ, 760, .inr (.inl r1))), (h0, .inr (10, [.ref kthis_p, .ref kthis_rates, .ref kthis_ladder, .ref kthis_lengths, .ref kthis_flows, .int v0_phases, .ref h1, .ref kthis_trial, .int v0_has, .int y2]))] H := hP
  have hD : va_D A [(h1, .inl (cJ, 760, .inr (.inl r1))), (h0, .inr (10, [.ref kthis_p, .ref kthis_rates, .ref kthis_ladder, .ref kthis_lengths, .ref kthis_flows, .int v0_phases, .ref h1, .ref kthis_trial, .int v0_has, .int y2]))] := hD
  subst h
  exact wRl S hr hlk (hP.sub [1, 0] rfl) (hD.sub [1, 0] (by decide) rfl) hS dX10_quality_11
abbrev rm_X10_scoreOf : Room := { frames := 1, cells := 0, slots := 0, locals := 23 }
theorem dX10_scoreOf_0 : decode cX10_scoreOf 0 = .ok (.aload_n 1, 1) := by decide +kernel
theorem dX10_scoreOf_1 : decode cX10_scoreOf 1 = .ok (.bipush 22, 2) := by decide +kernel
theorem dX10_scoreOf_3 : decode cX10_scoreOf 3 = .ok (.laload, 1) := by decide +kernel
theorem dX10_scoreOf_4 : decode cX10_scoreOf 4 = .ok (.ldc2_w 131, 3) := by decide +kernel
theorem dX10_scoreOf_7 : decode cX10_scoreOf 7 = .ok (.aload_n 0, 1) := by decide +kernel
theorem dX10_scoreOf_8 : decode cX10_scoreOf 8 = .ok (.iconst 0, 1) := by decide +kernel
theorem dX10_scoreOf_9 : decode cX10_scoreOf 9 = .ok (.aload_n 0, 1) := by decide +kernel
theorem dX10_scoreOf_10 : decode cX10_scoreOf 10 = .ok (.getfield 16, 3) := by decide +kernel
theorem dX10_scoreOf_13 : decode cX10_scoreOf 13 = .ok (.iconst 0, 1) := by decide +kernel
theorem dX10_scoreOf_14 : decode cX10_scoreOf 14 = .ok (.iaload, 1) := by decide +kernel
theorem dX10_scoreOf_15 : decode cX10_scoreOf 15 = .ok (.iconst 1, 1) := by decide +kernel
theorem dX10_scoreOf_16 : decode cX10_scoreOf 16 = .ok (.isub, 1) := by decide +kernel
theorem dX10_scoreOf_17 : decode cX10_scoreOf 17 = .ok (.i2l, 1) := by decide +kernel
theorem dX10_scoreOf_18 : decode cX10_scoreOf 18 = .ok (.invokevirtual 59, 3) := by decide +kernel
theorem dX10_scoreOf_21 : decode cX10_scoreOf 21 = .ok (.i2l, 1) := by decide +kernel
theorem dX10_scoreOf_22 : decode cX10_scoreOf 22 = .ok (.lmul, 1) := by decide +kernel
theorem dX10_scoreOf_23 : decode cX10_scoreOf 23 = .ok (.aload_n 1, 1) := by decide +kernel
theorem dX10_scoreOf_24 : decode cX10_scoreOf 24 = .ok (.bipush 16, 2) := by decide +kernel
theorem dX10_scoreOf_26 : decode cX10_scoreOf 26 = .ok (.laload, 1) := by decide +kernel
theorem dX10_scoreOf_27 : decode cX10_scoreOf 27 = .ok (.lmul, 1) := by decide +kernel
theorem dX10_scoreOf_28 : decode cX10_scoreOf 28 = .ok (.lsub, 1) := by decide +kernel
theorem dX10_scoreOf_29 : decode cX10_scoreOf 29 = .ok (.lreturn, 1) := by decide +kernel
def f_X10_scoreOf (r1 r2 : Nat → Int32) (r3 : Nat → Int64) : Option Int64 :=
  obnd (f_X10_rate r2 0 (((r1 0) - 1).toInt64)) fun (y1 : Int32) =>
  some ((r3 22) - ((2 * y1.toInt64) * (r3 16)))
set_option maxHeartbeats 4000000 in
set_option maxRecDepth 100000 in
theorem c_X10_scoreOf (l : Launch) (D : va_G) (cI cJ cC : ClassId) (h0 h1 h2 h3 kthis_p kthis_lengths kthis_flows kthis_now kthis_trial : Nat) (v0_phases v0_has v0_thrown : Int32) (r1 r2 : Nat → Int32) (r3 : Nat → Int64)  (t0 : Int64) (h : f_X10_scoreOf r1 r2 r3 = some t0) : Met l yX10_scoreOf (Cond.code yX10_scoreOf cX10_scoreOf 2 (some .long) :: TB) rm_X10_scoreOf (PreR D cI cJ cC [(h0, .inr (10, [.ref kthis_p, .ref h2, .ref h1, .ref kthis_lengths, .ref kthis_flows, .int v0_phases, .ref kthis_now, .ref kthis_trial, .int v0_has, .int v0_thrown])), (h1, .inl (cI, 2, .inl r1)), (h2, .inl (cI, 12, .inl r2)), (h3, .inl (cJ, 760, .inr (.inl r3)))] [.ref h0, .ref h3]) (QR (some (.long t0))) 0 0 free0 := by
  refine metR (own := RX10) (by decide) rfl (Nat.le_of_ble_eq_true rfl) ?_
  intro p e s m below meth c S hr hlk hP hK ls hl
  have hx := S.1
  have hb := S.2.1
  have hl : lv_has ls 2 [(0, .ref h0), (1, .ref h3)] := hl
  refine lv_aload_n hx hb dX10_scoreOf_0 rfl (lv_at hl 1 rfl) ?_
  refine lv_bipush (v := 22) hx hb dX10_scoreOf_1 lb_22 ?_
  refine aldJ (k := 22) (q0 := 3) S hK hP rfl vl_22_760 tn_22 dX10_scoreOf_3 ?_
  refine lv_ldc2 (v := 2) hx hb S.2.2.2.1 (S.2.2.2.2 _ tb1082) dX10_scoreOf_4 ?_
  refine lv_aload_n hx hb dX10_scoreOf_7 rfl (lv_at hl 0 rfl) ?_
  refine lv_iconst (v := 0) hx hb dX10_scoreOf_8 li_0 ?_
  refine lv_aload_n hx hb dX10_scoreOf_9 rfl (lv_at hl 0 rfl) ?_
  refine gf_X10_16 (v := .ref h1) S hK hP 0 rfl rfl dX10_scoreOf_10 ?_
  refine lv_iconst (v := 0) hx hb dX10_scoreOf_13 li_0 ?_
  refine aldI (k := 0) (q0 := 1) S hK hP rfl vl_0_2 tn_0 dX10_scoreOf_14 ?_
  refine lv_iconst (v := 1) hx hb dX10_scoreOf_15 li_1 ?_
  refine lv_isub hx hb dX10_scoreOf_16 ?_
  refine lv_i2l hx hb dX10_scoreOf_17 rfl ?_
  obtain ⟨y1, e_y1, h⟩ := obnd_eq h
  refine rdV (pc1 := 21) (rest := [.long 2, .long (r3 22)]) (st1 := [.int y1, .long 2, .long (r3 22)]) S (c_X10_rate l D cI cJ cC h0 h2 kthis_p h1 kthis_lengths kthis_flows kthis_now kthis_trial v0_phases v0_has v0_thrown r2 0 (((r1 0) - 1).toInt64) y1 e_y1) (cw_X10_59 S.2.2.2.2 ⟨Nat.le_of_ble_eq_true rfl, Nat.le_of_ble_eq_true rfl⟩) hK (hP.sub [0, 2] rfl) rfl rfl rfl rfl hl.1 rfl (Nat.le_of_ble_eq_true rfl) ⟨Nat.zero_le _, Nat.zero_le _⟩ rfl rfl dX10_scoreOf_18 ?_
  refine lv_i2l hx hb dX10_scoreOf_21 rfl ?_
  refine lv_lmul hx hb dX10_scoreOf_22 ?_
  refine lv_aload_n hx hb dX10_scoreOf_23 rfl (lv_at hl 1 rfl) ?_
  refine lv_bipush (v := 16) hx hb dX10_scoreOf_24 lb_16 ?_
  refine aldJ (k := 16) (q0 := 3) S hK hP rfl vl_16_760 tn_16 dX10_scoreOf_26 ?_
  refine lv_lmul hx hb dX10_scoreOf_27 ?_
  refine lv_lsub hx hb dX10_scoreOf_28 ?_
  have h := Option.some.inj h
  subst h
  exact rRl S hr hlk dX10_scoreOf_29
abbrev rm_X10_score : Room := { frames := 2, cells := 0, slots := 0, locals := 44 }
theorem dX10_score_0 : decode cX10_score 0 = .ok (.aload_n 0, 1) := by decide +kernel
theorem dX10_score_1 : decode cX10_score 1 = .ok (.aload_n 0, 1) := by decide +kernel
theorem dX10_score_2 : decode cX10_score 2 = .ok (.getfield 53, 3) := by decide +kernel
theorem dX10_score_5 : decode cX10_score 5 = .ok (.ifCond .eq 7, 3) := by decide +kernel
theorem dX10_score_8 : decode cX10_score 8 = .ok (.iconst 0, 1) := by decide +kernel
theorem dX10_score_9 : decode cX10_score 9 = .ok (.goto 4, 3) := by decide +kernel
theorem dX10_score_12 : decode cX10_score 12 = .ok (.iconst 1, 1) := by decide +kernel
theorem dX10_score_13 : decode cX10_score 13 = .ok (.putfield 33, 3) := by decide +kernel
theorem dX10_score_16 : decode cX10_score 16 = .ok (.aload_n 0, 1) := by decide +kernel
theorem dX10_score_17 : decode cX10_score 17 = .ok (.getfield 53, 3) := by decide +kernel
theorem dX10_score_20 : decode cX10_score 20 = .ok (.ifCond .eq 14, 3) := by decide +kernel
theorem dX10_score_23 : decode cX10_score 23 = .ok (.aload_n 0, 1) := by decide +kernel
theorem dX10_score_24 : decode cX10_score 24 = .ok (.aload_n 0, 1) := by decide +kernel
theorem dX10_score_25 : decode cX10_score 25 = .ok (.getfield 25, 3) := by decide +kernel
theorem dX10_score_28 : decode cX10_score 28 = .ok (.invokevirtual 193, 3) := by decide +kernel
theorem dX10_score_31 : decode cX10_score 31 = .ok (.goto 4, 3) := by decide +kernel
theorem dX10_score_34 : decode cX10_score 34 = .ok (.lconst 0, 1) := by decide +kernel
theorem dX10_score_35 : decode cX10_score 35 = .ok (.lreturn, 1) := by decide +kernel
theorem cw_X10_193 {R : Room} {s : State} {args : Array Value} (hts : ∀ w ∈ TB, w.before args s = true) (hR : rm_X10_scoreOf.frames + 1 ≤ R.frames ∧ 8 + (2 + 11) + rm_X10_scoreOf.locals ≤ R.locals) : CallW R s args RX10 RX10 193 yX10_scoreOf cX10_scoreOf 2 (some .long) (Cond.code yX10_scoreOf cX10_scoreOf 2 (some .long) :: TB) rm_X10_scoreOf 0 0 1 := cwV 1 hts (gV tb1205 tb1206 tb43 tb57 tb1207) rfl rfl rfl ⟨rfl, by decide, by decide, by decide +kernel⟩ hR
def f_X10_score (v0_has : Int32) (r1 : Nat → Int32) (r2 : Nat → Int64) (r3 : Nat → Int32) : Option (Int64 × Int32) :=
  if v0_has = 0 then
    if v0_has = 0 then
      some (0, 1)
    else
      obnd (f_X10_scoreOf r1 r3 r2) fun (z3 : Int64) =>
      some (z3, 1)
  else
    if v0_has = 0 then
      some (0, 0)
    else
      obnd (f_X10_scoreOf r1 r3 r2) fun (z5 : Int64) =>
      some (z5, 0)
set_option maxHeartbeats 4000000 in
set_option maxRecDepth 100000 in
theorem c_X10_score (l : Launch) (D : va_G) (cI cJ cC : ClassId) (h0 h1 h2 h3 kthis_p kthis_lengths kthis_flows kthis_trial : Nat) (v0_phases v0_has v0_thrown : Int32) (r1 : Nat → Int32) (r2 : Nat → Int64) (r3 : Nat → Int32) (sz : Nat)  (T : Int64 × Int32) (h : f_X10_score v0_has r1 r2 r3 = some T) : Met l yX10_score (Cond.code yX10_score cX10_score 1 (some .long) :: TB) rm_X10_score (PreW D cI cJ cC [(h0, .inr (10, [.ref kthis_p, .ref h3, .ref h1, .ref kthis_lengths, .ref kthis_flows, .int v0_phases, .ref h2, .ref kthis_trial, .int v0_has, .int v0_thrown])), (h1, .inl (cI, 2, .inl r1)), (h2, .inl (cJ, 760, .inr (.inl r2))), (h3, .inl (cI, 12, .inl r3))] sz [.ref h0]) (QW (some (.long T.1)) D [(h0, .inr (10, [.ref kthis_p, .ref h3, .ref h1, .ref kthis_lengths, .ref kthis_flows, .int v0_phases, .ref h2, .ref kthis_trial, .int v0_has, .int T.2])), (h1, .inl (cI, 2, .inl r1)), (h2, .inl (cJ, 760, .inr (.inl r2))), (h3, .inl (cI, 12, .inl r3))] (va_A [(h0, .inr (10, [.ref kthis_p, .ref h3, .ref h1, .ref kthis_lengths, .ref kthis_flows, .int v0_phases, .ref h2, .ref kthis_trial, .int v0_has, .int v0_thrown])), (h1, .inl (cI, 2, .inl r1)), (h2, .inl (cJ, 760, .inr (.inl r2))), (h3, .inl (cI, 12, .inl r3))] sz)) 0 0 (va_A [(h0, .inr (10, [.ref kthis_p, .ref h3, .ref h1, .ref kthis_lengths, .ref kthis_flows, .int v0_phases, .ref h2, .ref kthis_trial, .int v0_has, .int v0_thrown])), (h1, .inl (cI, 2, .inl r1)), (h2, .inl (cJ, 760, .inr (.inl r2))), (h3, .inl (cI, 12, .inl r3))] sz) := by
  refine metW (own := RX10) (by decide) rfl (Nat.le_of_ble_eq_true rfl) ?_
  intro p e s m below meth c S hr hlk hP hK A hAe hD hA hS ls hl
  clear hAe
  have hx := S.1
  have hb := S.2.1
  have hl : lv_has ls 1 [(0, .ref h0)] := hl
  refine lv_aload_n hx hb dX10_score_0 rfl (lv_at hl 0 rfl) ?_
  refine lv_aload_n hx hb dX10_score_1 rfl (lv_at hl 0 rfl) ?_
  refine gf_X10_53 (v := .int v0_has) S hK hP 0 rfl rfl dX10_score_2 ?_
  refine lv_if_eq (tgt := 12) hx hb dX10_score_5 (by decide) (fun c1 => ?_) (fun c1 => ?_)
  · have h := iteP c1 h
    refine lv_iconst (v := 1) hx hb dX10_score_12 li_1 ?_
    refine pf_X10_33 (v := .int 1) S hK hP hD hS 0 rfl (Nat.le_of_ble_eq_true rfl) rfl dX10_score_13 (fun H locs hP hD hS => ?_)
    have hP : va_P D vwCl [(h0, .inr (10, [.ref kthis_p, .ref h3, .ref h1, .ref kthis_lengths, .ref kthis_flows, .int v0_phases, .ref h2, .ref kthis_trial, .int v0_has, .int 1])), (h1, .inl (cI, 2, .inl r1)), (h2, .inl (cJ, 760, .inr (.inl r2))), (h3, .inl (cI, 12, .inl r3))] H := hP
    have hD : va_D A [(h0, .inr (10, [.ref kthis_p, .ref h3, .ref h1, .ref kthis_lengths, .ref kthis_flows, .int v0_phases, .ref h2, .ref kthis_trial, .int v0_has, .int 1])), (h1, .inl (cI, 2, .inl r1)), (h2, .inl (cJ, 760, .inr (.inl r2))), (h3, .inl (cI, 12, .inl r3))] := hD
    refine lv_aload_n hx hb dX10_score_16 rfl (lv_at hl 0 rfl) ?_
    refine gf_X10_53 (v := .int v0_has) S hK hP 0 rfl rfl dX10_score_17 ?_
    refine lv_if_eq (tgt := 34) hx hb dX10_score_20 (by decide) (fun c2 => ?_) (fun c2 => ?_)
    · have h := iteP c2 h
      refine lv_lconst (v := 0) hx hb dX10_score_34 rfl ?_
      have h := Option.some.inj h
      subst h
      exact wRl S hr hlk (hP.sub [0, 1, 2, 3] rfl) (hD.sub [0, 1, 2, 3] (by decide) rfl) hS dX10_score_35
    · have h := iteN c2 h
      refine lv_aload_n hx hb dX10_score_23 rfl (lv_at hl 0 rfl) ?_
      refine lv_aload_n hx hb dX10_score_24 rfl (lv_at hl 0 rfl) ?_
      refine gf_X10_25 (v := .ref h2) S hK hP 0 rfl rfl dX10_score_25 ?_
      obtain ⟨z3, e_z3, h⟩ := obnd_eq h
      refine rdV (pc1 := 31) (rest := []) (st1 := [.long z3]) S (c_X10_scoreOf l D cI cJ cC h0 h1 h3 h2 kthis_p kthis_lengths kthis_flows h2 kthis_trial v0_phases v0_has 1 r1 r3 r2  z3 e_z3) (cw_X10_193 S.2.2.2.2 ⟨Nat.le_of_ble_eq_true rfl, Nat.le_of_ble_eq_true rfl⟩) hK (hP.sub [0, 1, 3, 2] rfl) rfl rfl rfl rfl hl.1 rfl (Nat.le_of_ble_eq_true rfl) ⟨Nat.zero_le _, Nat.zero_le _⟩ rfl rfl dX10_score_28 ?_
      refine lv_goto (tgt := 35) hx hb dX10_score_31 (by decide) ?_
      have h := Option.some.inj h
      subst h
      exact wRl S hr hlk (hP.sub [0, 1, 2, 3] rfl) (hD.sub [0, 1, 2, 3] (by decide) rfl) hS dX10_score_35
  · have h := iteN c1 h
    refine lv_iconst (v := 0) hx hb dX10_score_8 li_0 ?_
    refine lv_goto (tgt := 13) hx hb dX10_score_9 (by decide) ?_
    refine pf_X10_33 (v := .int 0) S hK hP hD hS 0 rfl (Nat.le_of_ble_eq_true rfl) rfl dX10_score_13 (fun H locs hP hD hS => ?_)
    have hP : va_P D vwCl [(h0, .inr (10, [.ref kthis_p, .ref h3, .ref h1, .ref kthis_lengths, .ref kthis_flows, .int v0_phases, .ref h2, .ref kthis_trial, .int v0_has, .int 0])), (h1, .inl (cI, 2, .inl r1)), (h2, .inl (cJ, 760, .inr (.inl r2))), (h3, .inl (cI, 12, .inl r3))] H := hP
    have hD : va_D A [(h0, .inr (10, [.ref kthis_p, .ref h3, .ref h1, .ref kthis_lengths, .ref kthis_flows, .int v0_phases, .ref h2, .ref kthis_trial, .int v0_has, .int 0])), (h1, .inl (cI, 2, .inl r1)), (h2, .inl (cJ, 760, .inr (.inl r2))), (h3, .inl (cI, 12, .inl r3))] := hD
    refine lv_aload_n hx hb dX10_score_16 rfl (lv_at hl 0 rfl) ?_
    refine gf_X10_53 (v := .int v0_has) S hK hP 0 rfl rfl dX10_score_17 ?_
    refine lv_if_eq (tgt := 34) hx hb dX10_score_20 (by decide) (fun c4 => ?_) (fun c4 => ?_)
    · have h := iteP c4 h
      refine lv_lconst (v := 0) hx hb dX10_score_34 rfl ?_
      have h := Option.some.inj h
      subst h
      exact wRl S hr hlk (hP.sub [0, 1, 2, 3] rfl) (hD.sub [0, 1, 2, 3] (by decide) rfl) hS dX10_score_35
    · have h := iteN c4 h
      refine lv_aload_n hx hb dX10_score_23 rfl (lv_at hl 0 rfl) ?_
      refine lv_aload_n hx hb dX10_score_24 rfl (lv_at hl 0 rfl) ?_
      refine gf_X10_25 (v := .ref h2) S hK hP 0 rfl rfl dX10_score_25 ?_
      obtain ⟨z5, e_z5, h⟩ := obnd_eq h
      refine rdV (pc1 := 31) (rest := []) (st1 := [.long z5]) S (c_X10_scoreOf l D cI cJ cC h0 h1 h3 h2 kthis_p kthis_lengths kthis_flows h2 kthis_trial v0_phases v0_has 0 r1 r3 r2  z5 e_z5) (cw_X10_193 S.2.2.2.2 ⟨Nat.le_of_ble_eq_true rfl, Nat.le_of_ble_eq_true rfl⟩) hK (hP.sub [0, 1, 3, 2] rfl) rfl rfl rfl rfl hl.1 rfl (Nat.le_of_ble_eq_true rfl) ⟨Nat.zero_le _, Nat.zero_le _⟩ rfl rfl dX10_score_28 ?_
      refine lv_goto (tgt := 35) hx hb dX10_score_31 (by decide) ?_
      have h := Option.some.inj h
      subst h
      exact wRl S hr hlk (hP.sub [0, 1, 2, 3] rfl) (hD.sub [0, 1, 2, 3] (by decide) rfl) hS dX10_score_35
abbrev rm_X10_timeLine : Room := { frames := 1, cells := 0, slots := 0, locals := 21 }
theorem dX10_timeLine_0 : decode cX10_timeLine 0 = .ok (.aload_n 0, 1) := by decide +kernel
theorem dX10_timeLine_1 : decode cX10_timeLine 1 = .ok (.iload_n 1, 1) := by decide +kernel
theorem dX10_timeLine_2 : decode cX10_timeLine 2 = .ok (.ifCond .lt 7, 3) := by decide +kernel
theorem dX10_timeLine_5 : decode cX10_timeLine 5 = .ok (.iconst 1, 1) := by decide +kernel
theorem dX10_timeLine_6 : decode cX10_timeLine 6 = .ok (.goto 4, 3) := by decide +kernel
theorem dX10_timeLine_9 : decode cX10_timeLine 9 = .ok (.iconst 0, 1) := by decide +kernel
theorem dX10_timeLine_10 : decode cX10_timeLine 10 = .ok (.invokevirtual 183, 3) := by decide +kernel
theorem dX10_timeLine_13 : decode cX10_timeLine 13 = .ok (.ifCond .eq 5, 3) := by decide +kernel
theorem dX10_timeLine_16 : decode cX10_timeLine 16 = .ok (.iconst 0, 1) := by decide +kernel
theorem dX10_timeLine_17 : decode cX10_timeLine 17 = .ok (.ireturn, 1) := by decide +kernel
theorem dX10_timeLine_18 : decode cX10_timeLine 18 = .ok (.iload_n 1, 1) := by decide +kernel
theorem dX10_timeLine_19 : decode cX10_timeLine 19 = .ok (.i2l, 1) := by decide +kernel
theorem dX10_timeLine_20 : decode cX10_timeLine 20 = .ok (.aload_n 0, 1) := by decide +kernel
theorem dX10_timeLine_21 : decode cX10_timeLine 21 = .ok (.getfield 25, 3) := by decide +kernel
theorem dX10_timeLine_24 : decode cX10_timeLine 24 = .ok (.bipush 23, 2) := by decide +kernel
theorem dX10_timeLine_26 : decode cX10_timeLine 26 = .ok (.laload, 1) := by decide +kernel
theorem dX10_timeLine_27 : decode cX10_timeLine 27 = .ok (.lcmp, 1) := by decide +kernel
theorem dX10_timeLine_28 : decode cX10_timeLine 28 = .ok (.ifCond .ge 17, 3) := by decide +kernel
theorem dX10_timeLine_31 : decode cX10_timeLine 31 = .ok (.aload_n 0, 1) := by decide +kernel
theorem dX10_timeLine_32 : decode cX10_timeLine 32 = .ok (.getfield 25, 3) := by decide +kernel
theorem dX10_timeLine_35 : decode cX10_timeLine 35 = .ok (.sipush 450, 3) := by decide +kernel
theorem dX10_timeLine_38 : decode cX10_timeLine 38 = .ok (.iload_n 1, 1) := by decide +kernel
theorem dX10_timeLine_39 : decode cX10_timeLine 39 = .ok (.iadd, 1) := by decide +kernel
theorem dX10_timeLine_40 : decode cX10_timeLine 40 = .ok (.laload, 1) := by decide +kernel
theorem dX10_timeLine_41 : decode cX10_timeLine 41 = .ok (.l2i, 1) := by decide +kernel
theorem dX10_timeLine_42 : decode cX10_timeLine 42 = .ok (.goto 4, 3) := by decide +kernel
theorem dX10_timeLine_45 : decode cX10_timeLine 45 = .ok (.iconst (-1), 1) := by decide +kernel
theorem dX10_timeLine_46 : decode cX10_timeLine 46 = .ok (.ireturn, 1) := by decide +kernel
def f_X10_timeLine (v0_has : Int32) (r1 : Nat → Int64) (p0 : Int32) : Option (Int32 × Int32) :=
  if p0 < 0 then
    bnd2 (f_X10_isWrong v0_has 0) fun (y2 : Int32) (y3 : Int32) =>
    if y2 = 0 then
      if (r1 23) ≤ p0.toInt64 then
        some ((-1), y3)
      else
        grd (vin (450 + p0) 760) <|
        some ((r1 (450 + p0).toNatClampNeg).toInt32, y3)
    else
      some (0, y3)
  else
    bnd2 (f_X10_isWrong v0_has 1) fun (y7 : Int32) (y8 : Int32) =>
    if y7 = 0 then
      if (r1 23) ≤ p0.toInt64 then
        some ((-1), y8)
      else
        grd (vin (450 + p0) 760) <|
        some ((r1 (450 + p0).toNatClampNeg).toInt32, y8)
    else
      some (0, y8)
set_option maxHeartbeats 4000000 in
set_option maxRecDepth 100000 in
theorem c_X10_timeLine (l : Launch) (D : va_G) (cI cJ cC : ClassId) (h0 h1 kthis_p kthis_rates kthis_ladder kthis_lengths kthis_flows kthis_trial : Nat) (v0_phases v0_has v0_thrown : Int32) (r1 : Nat → Int64) (sz : Nat) (p0 : Int32) (T : Int32 × Int32) (h : f_X10_timeLine v0_has r1 p0 = some T) : Met l yX10_timeLine (Cond.code yX10_timeLine cX10_timeLine 2 (some .int) :: TB) rm_X10_timeLine (PreW D cI cJ cC [(h0, .inr (10, [.ref kthis_p, .ref kthis_rates, .ref kthis_ladder, .ref kthis_lengths, .ref kthis_flows, .int v0_phases, .ref h1, .ref kthis_trial, .int v0_has, .int v0_thrown])), (h1, .inl (cJ, 760, .inr (.inl r1)))] sz [.ref h0, .int p0]) (QW (some (.int T.1)) D [(h0, .inr (10, [.ref kthis_p, .ref kthis_rates, .ref kthis_ladder, .ref kthis_lengths, .ref kthis_flows, .int v0_phases, .ref h1, .ref kthis_trial, .int v0_has, .int T.2])), (h1, .inl (cJ, 760, .inr (.inl r1)))] (va_A [(h0, .inr (10, [.ref kthis_p, .ref kthis_rates, .ref kthis_ladder, .ref kthis_lengths, .ref kthis_flows, .int v0_phases, .ref h1, .ref kthis_trial, .int v0_has, .int v0_thrown])), (h1, .inl (cJ, 760, .inr (.inl r1)))] sz)) 0 0 (va_A [(h0, .inr (10, [.ref kthis_p, .ref kthis_rates, .ref kthis_ladder, .ref kthis_lengths, .ref kthis_flows, .int v0_phases, .ref h1, .ref kthis_trial, .int v0_has, .int v0_thrown])), (h1, .inl (cJ, 760, .inr (.inl r1)))] sz) := by
  refine metW (own := RX10) (by decide) rfl (Nat.le_of_ble_eq_true rfl) ?_
  intro p e s m below meth c S hr hlk hP hK A hAe hD hA hS ls hl
  clear hAe
  have hx := S.1
  have hb := S.2.1
  have hl : lv_has ls 2 [(0, .ref h0), (1, .int p0)] := hl
  refine lv_aload_n hx hb dX10_timeLine_0 rfl (lv_at hl 0 rfl) ?_
  refine lv_iload_n hx hb dX10_timeLine_1 rfl (lv_at hl 1 rfl) ?_
  refine lv_if_lt (tgt := 9) hx hb dX10_timeLine_2 (by decide) (fun c1 => ?_) (fun c1 => ?_)
  · have h := iteP c1 h
    refine lv_iconst (v := 0) hx hb dX10_timeLine_9 li_0 ?_
    obtain ⟨y2, y3, e_y2⟩ : ∃ a0 a1, f_X10_isWrong v0_has 0 = (a0, a1) := ⟨_, _, rfl⟩
    have h := bnd2_eq e_y2 h
    refine wrV (pc1 := 13) (rest := []) (st1 := [.int y2]) (wr := [(h1, .inl (cJ, 760, .inr (.inl r1)))]) S (c_X10_isWrong l D cI cJ cC h0 kthis_p kthis_rates kthis_ladder kthis_lengths kthis_flows h1 kthis_trial v0_phases v0_has v0_thrown s.heap.size 0 (y2, y3) e_y2) (cw_X10_183 S.2.2.2.2 ⟨Nat.le_of_ble_eq_true rfl, Nat.le_of_ble_eq_true rfl⟩) hK hP hD hS hA [0] [1] rfl rfl rfl (by decide) (by decide) (by decide) rfl rfl rfl rfl hl.1 rfl (Nat.le_of_ble_eq_true rfl) ⟨Nat.zero_le _, Nat.zero_le _⟩ rfl rfl dX10_timeLine_10 (fun H locs hP hD hS => ?_)
    have hP : va_P D vwCl [(h1, .inl (cJ, 760, .inr (.inl r1))), (h0, .inr (10, [.ref kthis_p, .ref kthis_rates, .ref kthis_ladder, .ref kthis_lengths, .ref kthis_flows, .int v0_phases, .ref h1, .ref kthis_trial, .int v0_has, .int y3]))] H := hP
    have hD : va_D A [(h1, .inl (cJ, 760, .inr (.inl r1))), (h0, .inr (10, [.ref kthis_p, .ref kthis_rates, .ref kthis_ladder, .ref kthis_lengths, .ref kthis_flows, .int v0_phases, .ref h1, .ref kthis_trial, .int v0_has, .int y3]))] := hD
    refine lv_if_eq (tgt := 18) hx hb dX10_timeLine_13 (by decide) (fun c4 => ?_) (fun c4 => ?_)
    · have h := iteP c4 h
      refine lv_iload_n hx hb dX10_timeLine_18 rfl (lv_at hl 1 rfl) ?_
      refine lv_i2l hx hb dX10_timeLine_19 rfl ?_
      refine lv_aload_n hx hb dX10_timeLine_20 rfl (lv_at hl 0 rfl) ?_
      refine gf_X10_25 (v := .ref h1) S hK hP 1 rfl rfl dX10_timeLine_21 ?_
      refine lv_bipush (v := 23) hx hb dX10_timeLine_24 lb_23 ?_
      refine aldJ (k := 23) (q0 := 0) S hK hP rfl vl_23_760 tn_23 dX10_timeLine_26 ?_
      refine lc_ge (tgt := 45) hx hb dX10_timeLine_27 dX10_timeLine_28 (by decide) (fun c5 => ?_) (fun c5 => ?_)
      · have h := iteP c5 h
        refine lv_iconst (v := (-1)) hx hb dX10_timeLine_45 li_m1 ?_
        have h := Option.some.inj h
        subst h
        exact wRi S hr hlk (hP.sub [1, 0] rfl) (hD.sub [1, 0] (by decide) rfl) hS dX10_timeLine_46
      · have h := iteN c5 h
        refine lv_aload_n hx hb dX10_timeLine_31 rfl (lv_at hl 0 rfl) ?_
        refine gf_X10_25 (v := .ref h1) S hK hP 1 rfl rfl dX10_timeLine_32 ?_
        refine lv_sipush (v := 450) hx hb dX10_timeLine_35 ls_450 ?_
        refine lv_iload_n hx hb dX10_timeLine_38 rfl (lv_at hl 1 rfl) ?_
        refine lv_iadd hx hb dX10_timeLine_39 ?_
        obtain ⟨g6, h⟩ := grd_eq h
        refine aldJ (k := (450 + p0).toNatClampNeg) (q0 := 0) S hK hP rfl (vin_in g6) rfl dX10_timeLine_40 ?_
        refine lv_l2i hx hb dX10_timeLine_41 rfl ?_
        refine lv_goto (tgt := 46) hx hb dX10_timeLine_42 (by decide) ?_
        have h := Option.some.inj h
        subst h
        exact wRi S hr hlk (hP.sub [1, 0] rfl) (hD.sub [1, 0] (by decide) rfl) hS dX10_timeLine_46
    · have h := iteN c4 h
      refine lv_iconst (v := 0) hx hb dX10_timeLine_16 li_0 ?_
      have h := Option.some.inj h
      subst h
      exact wRi S hr hlk (hP.sub [1, 0] rfl) (hD.sub [1, 0] (by decide) rfl) hS dX10_timeLine_17
  · have h := iteN c1 h
    refine lv_iconst (v := 1) hx hb dX10_timeLine_5 li_1 ?_
    refine lv_goto (tgt := 10) hx hb dX10_timeLine_6 (by decide) ?_
    obtain ⟨y7, y8, e_y7⟩ : ∃ a0 a1, f_X10_isWrong v0_has 1 = (a0, a1) := ⟨_, _, rfl⟩
    have h := bnd2_eq e_y7 h
    refine wrV (pc1 := 13) (rest := []) (st1 := [.int y7]) (wr := [(h1, .inl (cJ, 760, .inr (.inl r1)))]) S (c_X10_isWrong l D cI cJ cC h0 kthis_p kthis_rates kthis_ladder kthis_lengths kthis_flows h1 kthis_trial v0_phases v0_has v0_thrown s.heap.size 1 (y7, y8) e_y7) (cw_X10_183 S.2.2.2.2 ⟨Nat.le_of_ble_eq_true rfl, Nat.le_of_ble_eq_true rfl⟩) hK hP hD hS hA [0] [1] rfl rfl rfl (by decide) (by decide) (by decide) rfl rfl rfl rfl hl.1 rfl (Nat.le_of_ble_eq_true rfl) ⟨Nat.zero_le _, Nat.zero_le _⟩ rfl rfl dX10_timeLine_10 (fun H locs hP hD hS => ?_)
    have hP : va_P D vwCl [(h1, .inl (cJ, 760, .inr (.inl r1))), (h0, .inr (10, [.ref kthis_p, .ref kthis_rates, .ref kthis_ladder, .ref kthis_lengths, .ref kthis_flows, .int v0_phases, .ref h1, .ref kthis_trial, .int v0_has, .int y8]))] H := hP
    have hD : va_D A [(h1, .inl (cJ, 760, .inr (.inl r1))), (h0, .inr (10, [.ref kthis_p, .ref kthis_rates, .ref kthis_ladder, .ref kthis_lengths, .ref kthis_flows, .int v0_phases, .ref h1, .ref kthis_trial, .int v0_has, .int y8]))] := hD
    refine lv_if_eq (tgt := 18) hx hb dX10_timeLine_13 (by decide) (fun c9 => ?_) (fun c9 => ?_)
    · have h := iteP c9 h
      refine lv_iload_n hx hb dX10_timeLine_18 rfl (lv_at hl 1 rfl) ?_
      refine lv_i2l hx hb dX10_timeLine_19 rfl ?_
      refine lv_aload_n hx hb dX10_timeLine_20 rfl (lv_at hl 0 rfl) ?_
      refine gf_X10_25 (v := .ref h1) S hK hP 1 rfl rfl dX10_timeLine_21 ?_
      refine lv_bipush (v := 23) hx hb dX10_timeLine_24 lb_23 ?_
      refine aldJ (k := 23) (q0 := 0) S hK hP rfl vl_23_760 tn_23 dX10_timeLine_26 ?_
      refine lc_ge (tgt := 45) hx hb dX10_timeLine_27 dX10_timeLine_28 (by decide) (fun c10 => ?_) (fun c10 => ?_)
      · have h := iteP c10 h
        refine lv_iconst (v := (-1)) hx hb dX10_timeLine_45 li_m1 ?_
        have h := Option.some.inj h
        subst h
        exact wRi S hr hlk (hP.sub [1, 0] rfl) (hD.sub [1, 0] (by decide) rfl) hS dX10_timeLine_46
      · have h := iteN c10 h
        refine lv_aload_n hx hb dX10_timeLine_31 rfl (lv_at hl 0 rfl) ?_
        refine gf_X10_25 (v := .ref h1) S hK hP 1 rfl rfl dX10_timeLine_32 ?_
        refine lv_sipush (v := 450) hx hb dX10_timeLine_35 ls_450 ?_
        refine lv_iload_n hx hb dX10_timeLine_38 rfl (lv_at hl 1 rfl) ?_
        refine lv_iadd hx hb dX10_timeLine_39 ?_
        obtain ⟨g11, h⟩ := grd_eq h
        refine aldJ (k := (450 + p0).toNatClampNeg) (q0 := 0) S hK hP rfl (vin_in g11) rfl dX10_timeLine_40 ?_
        refine lv_l2i hx hb dX10_timeLine_41 rfl ?_
        refine lv_goto (tgt := 46) hx hb dX10_timeLine_42 (by decide) ?_
        have h := Option.some.inj h
        subst h
        exact wRi S hr hlk (hP.sub [1, 0] rfl) (hD.sub [1, 0] (by decide) rfl) hS dX10_timeLine_46
    · have h := iteN c9 h
      refine lv_iconst (v := 0) hx hb dX10_timeLine_16 li_0 ?_
      have h := Option.some.inj h
      subst h
      exact wRi S hr hlk (hP.sub [1, 0] rfl) (hD.sub [1, 0] (by decide) rfl) hS dX10_timeLine_17
abbrev rm_X10_forecast : Room := { frames := 5, cells := 0, slots := 0, locals := 135 }
theorem dX10_forecast_0 : decode cX10_forecast 0 = .ok (.aload_n 0, 1) := by decide +kernel
theorem dX10_forecast_1 : decode cX10_forecast 1 = .ok (.iload_n 1, 1) := by decide +kernel
theorem dX10_forecast_2 : decode cX10_forecast 2 = .ok (.i2l, 1) := by decide +kernel
theorem dX10_forecast_3 : decode cX10_forecast 3 = .ok (.lconst 0, 1) := by decide +kernel
theorem dX10_forecast_4 : decode cX10_forecast 4 = .ok (.ldc2_w 171, 3) := by decide +kernel
theorem dX10_forecast_7 : decode cX10_forecast 7 = .ok (.invokestatic 39, 3) := by decide +kernel
theorem dX10_forecast_10 : decode cX10_forecast 10 = .ok (.ifCond .ne 7, 3) := by decide +kernel
theorem dX10_forecast_13 : decode cX10_forecast 13 = .ok (.iconst 1, 1) := by decide +kernel
theorem dX10_forecast_14 : decode cX10_forecast 14 = .ok (.goto 31, 3) := by decide +kernel
theorem dX10_forecast_17 : decode cX10_forecast 17 = .ok (.iload_n 2, 1) := by decide +kernel
theorem dX10_forecast_18 : decode cX10_forecast 18 = .ok (.i2l, 1) := by decide +kernel
theorem dX10_forecast_19 : decode cX10_forecast 19 = .ok (.lconst 0, 1) := by decide +kernel
theorem dX10_forecast_20 : decode cX10_forecast 20 = .ok (.ldc2_w 78, 3) := by decide +kernel
theorem dX10_forecast_23 : decode cX10_forecast 23 = .ok (.invokestatic 39, 3) := by decide +kernel
theorem dX10_forecast_26 : decode cX10_forecast 26 = .ok (.ifCond .ne 7, 3) := by decide +kernel
theorem dX10_forecast_29 : decode cX10_forecast 29 = .ok (.iconst 2, 1) := by decide +kernel
theorem dX10_forecast_30 : decode cX10_forecast 30 = .ok (.goto 15, 3) := by decide +kernel
theorem dX10_forecast_33 : decode cX10_forecast 33 = .ok (.aload_n 0, 1) := by decide +kernel
theorem dX10_forecast_34 : decode cX10_forecast 34 = .ok (.getfield 53, 3) := by decide +kernel
theorem dX10_forecast_37 : decode cX10_forecast 37 = .ok (.ifCond .eq 7, 3) := by decide +kernel
theorem dX10_forecast_40 : decode cX10_forecast 40 = .ok (.iconst 0, 1) := by decide +kernel
theorem dX10_forecast_41 : decode cX10_forecast 41 = .ok (.goto 4, 3) := by decide +kernel
theorem dX10_forecast_44 : decode cX10_forecast 44 = .ok (.iconst 3, 1) := by decide +kernel
theorem dX10_forecast_45 : decode cX10_forecast 45 = .ok (.putfield 33, 3) := by decide +kernel
theorem dX10_forecast_48 : decode cX10_forecast 48 = .ok (.aload_n 0, 1) := by decide +kernel
theorem dX10_forecast_49 : decode cX10_forecast 49 = .ok (.getfield 33, 3) := by decide +kernel
theorem dX10_forecast_52 : decode cX10_forecast 52 = .ok (.ifCond .eq 5, 3) := by decide +kernel
theorem dX10_forecast_55 : decode cX10_forecast 55 = .ok (.iconst 0, 1) := by decide +kernel
theorem dX10_forecast_56 : decode cX10_forecast 56 = .ok (.ireturn, 1) := by decide +kernel
theorem dX10_forecast_57 : decode cX10_forecast 57 = .ok (.iconst 0, 1) := by decide +kernel
theorem dX10_forecast_58 : decode cX10_forecast 58 = .ok (.istore_n 3, 1) := by decide +kernel
theorem dX10_forecast_59 : decode cX10_forecast 59 = .ok (.iload_n 3, 1) := by decide +kernel
theorem dX10_forecast_60 : decode cX10_forecast 60 = .ok (.sipush 760, 3) := by decide +kernel
theorem dX10_forecast_63 : decode cX10_forecast 63 = .ok (.if_icmp .ge 21, 3) := by decide +kernel
theorem dX10_forecast_66 : decode cX10_forecast 66 = .ok (.aload_n 0, 1) := by decide +kernel
theorem dX10_forecast_67 : decode cX10_forecast 67 = .ok (.getfield 29, 3) := by decide +kernel
theorem dX10_forecast_70 : decode cX10_forecast 70 = .ok (.iload_n 3, 1) := by decide +kernel
theorem dX10_forecast_71 : decode cX10_forecast 71 = .ok (.aload_n 0, 1) := by decide +kernel
theorem dX10_forecast_72 : decode cX10_forecast 72 = .ok (.getfield 25, 3) := by decide +kernel
theorem dX10_forecast_75 : decode cX10_forecast 75 = .ok (.iload_n 3, 1) := by decide +kernel
theorem dX10_forecast_76 : decode cX10_forecast 76 = .ok (.laload, 1) := by decide +kernel
theorem dX10_forecast_77 : decode cX10_forecast 77 = .ok (.lastore, 1) := by decide +kernel
theorem dX10_forecast_78 : decode cX10_forecast 78 = .ok (.iinc 3 1, 3) := by decide +kernel
theorem dX10_forecast_81 : decode cX10_forecast 81 = .ok (.goto (-22), 3) := by decide +kernel
theorem dX10_forecast_84 : decode cX10_forecast 84 = .ok (.aload_n 0, 1) := by decide +kernel
theorem dX10_forecast_85 : decode cX10_forecast 85 = .ok (.aload_n 0, 1) := by decide +kernel
theorem dX10_forecast_86 : decode cX10_forecast 86 = .ok (.getfield 29, 3) := by decide +kernel
theorem dX10_forecast_89 : decode cX10_forecast 89 = .ok (.iload_n 1, 1) := by decide +kernel
theorem dX10_forecast_90 : decode cX10_forecast 90 = .ok (.aload_n 0, 1) := by decide +kernel
theorem dX10_forecast_91 : decode cX10_forecast 91 = .ok (.getfield 7, 3) := by decide +kernel
theorem dX10_forecast_94 : decode cX10_forecast 94 = .ok (.bipush 12, 2) := by decide +kernel
theorem dX10_forecast_96 : decode cX10_forecast 96 = .ok (.iaload, 1) := by decide +kernel
theorem dX10_forecast_97 : decode cX10_forecast 97 = .ok (.aload_n 0, 1) := by decide +kernel
theorem dX10_forecast_98 : decode cX10_forecast 98 = .ok (.getfield 7, 3) := by decide +kernel
theorem dX10_forecast_101 : decode cX10_forecast 101 = .ok (.iconst 3, 1) := by decide +kernel
theorem dX10_forecast_102 : decode cX10_forecast 102 = .ok (.iaload, 1) := by decide +kernel
theorem dX10_forecast_103 : decode cX10_forecast 103 = .ok (.invokevirtual 175, 3) := by decide +kernel
theorem dX10_forecast_106 : decode cX10_forecast 106 = .ok (.iload_n 2, 1) := by decide +kernel
theorem dX10_forecast_107 : decode cX10_forecast 107 = .ok (.ifCond .ne 12, 3) := by decide +kernel
theorem dX10_forecast_110 : decode cX10_forecast 110 = .ok (.aload_n 0, 1) := by decide +kernel
theorem dX10_forecast_111 : decode cX10_forecast 111 = .ok (.getfield 29, 3) := by decide +kernel
theorem dX10_forecast_114 : decode cX10_forecast 114 = .ok (.iconst 2, 1) := by decide +kernel
theorem dX10_forecast_115 : decode cX10_forecast 115 = .ok (.laload, 1) := by decide +kernel
theorem dX10_forecast_116 : decode cX10_forecast 116 = .ok (.goto 41, 3) := by decide +kernel
theorem dX10_forecast_119 : decode cX10_forecast 119 = .ok (.iload_n 2, 1) := by decide +kernel
theorem dX10_forecast_120 : decode cX10_forecast 120 = .ok (.iconst 1, 1) := by decide +kernel
theorem dX10_forecast_121 : decode cX10_forecast 121 = .ok (.if_icmp .ne 12, 3) := by decide +kernel
theorem dX10_forecast_124 : decode cX10_forecast 124 = .ok (.aload_n 0, 1) := by decide +kernel
theorem dX10_forecast_125 : decode cX10_forecast 125 = .ok (.getfield 29, 3) := by decide +kernel
theorem dX10_forecast_128 : decode cX10_forecast 128 = .ok (.iconst 1, 1) := by decide +kernel
theorem dX10_forecast_129 : decode cX10_forecast 129 = .ok (.laload, 1) := by decide +kernel
theorem dX10_forecast_130 : decode cX10_forecast 130 = .ok (.goto 27, 3) := by decide +kernel
theorem dX10_forecast_133 : decode cX10_forecast 133 = .ok (.iload_n 2, 1) := by decide +kernel
theorem dX10_forecast_134 : decode cX10_forecast 134 = .ok (.iconst 2, 1) := by decide +kernel
theorem dX10_forecast_135 : decode cX10_forecast 135 = .ok (.if_icmp .ne 13, 3) := by decide +kernel
theorem dX10_forecast_138 : decode cX10_forecast 138 = .ok (.aload_n 0, 1) := by decide +kernel
theorem dX10_forecast_139 : decode cX10_forecast 139 = .ok (.getfield 29, 3) := by decide +kernel
theorem dX10_forecast_142 : decode cX10_forecast 142 = .ok (.bipush 16, 2) := by decide +kernel
theorem dX10_forecast_144 : decode cX10_forecast 144 = .ok (.laload, 1) := by decide +kernel
theorem dX10_forecast_145 : decode cX10_forecast 145 = .ok (.goto 12, 3) := by decide +kernel
theorem dX10_forecast_148 : decode cX10_forecast 148 = .ok (.aload_n 0, 1) := by decide +kernel
theorem dX10_forecast_149 : decode cX10_forecast 149 = .ok (.aload_n 0, 1) := by decide +kernel
theorem dX10_forecast_150 : decode cX10_forecast 150 = .ok (.getfield 29, 3) := by decide +kernel
theorem dX10_forecast_153 : decode cX10_forecast 153 = .ok (.iconst 0, 1) := by decide +kernel
theorem dX10_forecast_154 : decode cX10_forecast 154 = .ok (.invokevirtual 88, 3) := by decide +kernel
theorem dX10_forecast_157 : decode cX10_forecast 157 = .ok (.lstore_n 3, 1) := by decide +kernel
theorem dX10_forecast_158 : decode cX10_forecast 158 = .ok (.lload_n 3, 1) := by decide +kernel
theorem dX10_forecast_159 : decode cX10_forecast 159 = .ok (.l2i, 1) := by decide +kernel
theorem dX10_forecast_160 : decode cX10_forecast 160 = .ok (.ireturn, 1) := by decide +kernel
theorem gf_X10_29 {p : Program} {l : Launch} {e : Env} {R : Room} {s : State} {m : MethodId} {args : Array Value} {below : List Frame} {meth : Method} {c : Code} {H : Heap} {locs : List Loc} {cells slots : Nat} {Q : State → Prop} {cc : ByteArray} {pc nL : Nat} {ls : Array Slot} {rest : List Value} {D : va_G} {ws : va_W} {tys : List (ClassId × FieldType)} (S : CallFix p m c cc nL s args TB RX10) (hK : va_K D vwCl tys s) (hP : va_P D vwCl ws H) (q0 : Nat) {a : Nat} {fs : List Value} (he : ws[q0]? = some (a, .inr (10, fs))) {v : Value} (hv : fs[7]? = some v) (hdg : decode cc pc = .ok (.getfield 29, 3))
    (kk : W p l e R s m args below meth c H locs cells slots Q (F0 m (pc + 3) ls (v :: rest))) : W p l e R s m args below meth c H locs cells slots Q (F0 m pc ls (.ref a :: rest)) :=
  va_get (D := D) (ci := 10) (C := RX10) (T := TX10) (N := 10) S.1 S.2.1 S.2.2.2.2 iwX10 S.2.2.2.1 hK hP q0 he rfl 7 (by decide) (S.2.2.2.2 _ tb968) (fun _ h9 => h9) hv hdg kk
def f_X10_forecast_b59 (v0_phases : Int32) (r1 r2 r3 : Nat → Int32) (r4 : Nat → Int64) (r5 r6 : Nat → Int32) : Nat → Int32 → (Nat → Int64) → Int32 → Int32 → Int32 → Option (Int32 × Int32 × (Nat → Int64))
  | 0, _, _, _, _, _ => none
  | n + 1, v0_thrown, r7, l1, l2, l3 =>
    if 760 ≤ l3 then
      obnd (f_X10_goesOn v0_phases r1 r2 r3 r5 r6 r7 l1 (r5 12) (r5 3)) fun (u2 : Nat → Int64) =>
      if l2 = 0 then
        some ((u2 2).toInt32, v0_thrown, u2)
      else
        if l2 = 1 then
          some ((u2 1).toInt32, v0_thrown, u2)
        else
          if l2 = 2 then
            some ((u2 16).toInt32, v0_thrown, u2)
          else
            obnd (f_X10_bufferOf r5 u2 0) fun (z6 : Int64) =>
            some (z6.toInt32, v0_thrown, u2)
    else
      bnd (vp_updL r7 l3.toNatClampNeg (r4 l3.toNatClampNeg)) fun (u7 : Nat → Int64) =>
      f_X10_forecast_b59 v0_phases r1 r2 r3 r4 r5 r6 n v0_thrown u7 l1 l2 (l3 + 1)
def f_X10_forecast (v0_phases v0_has : Int32) (r1 r2 r3 : Nat → Int32) (r4 : Nat → Int64) (r5 r6 : Nat → Int32) (r7 : Nat → Int64) (p0 p1 : Int32) : Option (Int32 × Int32 × (Nat → Int64)) :=
  if (f_X10_in p0.toInt64 0 20000) = 0 then
    some (0, 1, r7)
  else
    if (f_X10_in p1.toInt64 0 3) = 0 then
      some (0, 2, r7)
    else
      if v0_has = 0 then
        some (0, 3, r7)
      else
        f_X10_forecast_b59 v0_phases r1 r2 r3 r4 r5 r6 ((((760 : Int32).toInt - (0 : Int32).toInt).toNat) + 1) 0 r7 p0 p1 0
set_option maxHeartbeats 4000000 in
set_option maxRecDepth 100000 in
theorem k_X10_forecast_b59 {p : Program} {l : Launch} {e : Env} {s : State} {m : MethodId} {args : Array Value} {below : List Frame} {meth : Method} {c : Code} {D : va_G} {cI cJ cC : ClassId} {h0 h1 h2 h3 h4 h5 h6 h7 : Nat} {v0_phases v0_has : Int32} {r1 r2 r3 : Nat → Int32} {r4 : Nat → Int64} {r5 r6 : Nat → Int32} {T : Int32 × Int32 × (Nat → Int64)}{A : Nat → Prop} (S : CallFix p m c cX10_forecast 5 s args TB RX10) (hr : meth.sig.returnType = (some .int)) (hlk : meth.locks = false) (hK : va_K D vwCl (ty3 cI cJ cC) s) (hA : ∀ q : Nat, s.heap.size ≤ q → A q) : ∀ (n : Nat) (v0_thrown : Int32) (r7 : Nat → Int64) (l1 l2 l3 : Int32) (H : Heap) (locs : List Loc) (ls : Array Slot), 0 ≤ l3 → ((760 : Int32).toInt - l3.toInt).toNat < n → f_X10_forecast_b59 v0_phases r1 r2 r3 r4 r5 r6 n v0_thrown r7 l1 l2 l3 = some T → va_P D vwCl [(h0, .inr (10, [.ref h5, .ref h6, .ref h2, .ref h3, .ref h1, .int v0_phases, .ref h4, .ref h7, .int v0_has, .int v0_thrown])), (h1, .inl (cI, 20, .inl r1)), (h2, .inl (cI, 2, .inl r2)), (h3, .inl (cI, 20, .inl r3)), (h4, .inl (cJ, 760, .inr (.inl r4))), (h5, .inl (cI, 15, .inl r5)), (h6, .inl (cI, 12, .inl r6)), (h7, .inl (cJ, 760, .inr (.inl r7)))] H → va_D A [(h0, .inr (10, [.ref h5, .ref h6, .ref h2, .ref h3, .ref h1, .int v0_phases, .ref h4, .ref h7, .int v0_has, .int v0_thrown])), (h1, .inl (cI, 20, .inl r1)), (h2, .inl (cI, 2, .inl r2)), (h3, .inl (cI, 20, .inl r3)), (h4, .inl (cJ, 760, .inr (.inl r4))), (h5, .inl (cI, 15, .inl r5)), (h6, .inl (cI, 12, .inl r6)), (h7, .inl (cJ, 760, .inr (.inl r7)))] → va_S A s.heap H locs → lv_has ls 5 [(0, .ref h0), (1, .int l1), (2, .int l2), (3, .int l3)] → W p l e rm_X10_forecast s m args below meth c H locs 0 0 (MQ below (QW (some (.int T.1)) D [(h0, .inr (10, [.ref h5, .ref h6, .ref h2, .ref h3, .ref h1, .int v0_phases, .ref h4, .ref h7, .int v0_has, .int T.2.1])), (h1, .inl (cI, 20, .inl r1)), (h2, .inl (cI, 2, .inl r2)), (h3, .inl (cI, 20, .inl r3)), (h4, .inl (cJ, 760, .inr (.inl r4))), (h5, .inl (cI, 15, .inl r5)), (h6, .inl (cI, 12, .inl r6)), (h7, .inl (cJ, 760, .inr (.inl T.2.2)))] A) args s 0 0 A) (F0 m 59 ls []) := by
  have hx := S.1
  have hb := S.2.1
  intro n
  induction n with
  | zero => intro v0_thrown r7 l1 l2 l3 H locs ls hi0 hmu; exact absurd hmu (Nat.not_lt_zero _)
  | succ n ih =>
    intro v0_thrown r7 l1 l2 l3 H locs ls hi0 hmu h hP hD hS hl
    refine lv_iload_n hx hb dX10_forecast_59 rfl (lv_at hl 3 rfl) ?_
    refine lv_sipush (v := 760) hx hb dX10_forecast_60 ls_760 ?_
    refine lv_icmp_ge (tgt := 84) hx hb dX10_forecast_63 (by decide) (fun c1 => ?_) (fun c1 => ?_)
    · have h := iteP c1 h
      refine lv_aload_n hx hb dX10_forecast_84 rfl (lv_at hl 0 rfl) ?_
      refine lv_aload_n hx hb dX10_forecast_85 rfl (lv_at hl 0 rfl) ?_
      refine gf_X10_29 (v := .ref h7) S hK hP 0 rfl rfl dX10_forecast_86 ?_
      refine lv_iload_n hx hb dX10_forecast_89 rfl (lv_at hl 1 rfl) ?_
      refine lv_aload_n hx hb dX10_forecast_90 rfl (lv_at hl 0 rfl) ?_
      refine gf_X10_7 (v := .ref h5) S hK hP 0 rfl rfl dX10_forecast_91 ?_
      refine lv_bipush (v := 12) hx hb dX10_forecast_94 lb_12 ?_
      refine aldI (k := 12) (q0 := 5) S hK hP rfl vl_12_15 tn_12 dX10_forecast_96 ?_
      refine lv_aload_n hx hb dX10_forecast_97 rfl (lv_at hl 0 rfl) ?_
      refine gf_X10_7 (v := .ref h5) S hK hP 0 rfl rfl dX10_forecast_98 ?_
      refine lv_iconst (v := 3) hx hb dX10_forecast_101 li_3 ?_
      refine aldI (k := 3) (q0 := 5) S hK hP rfl vl_3_15 tn_3 dX10_forecast_102 ?_
      obtain ⟨u2, e_u2, h⟩ := obnd_eq h
      refine wrV (pc1 := 106) (rest := []) (st1 := []) (wr := [(h4, .inl (cJ, 760, .inr (.inl r4)))]) S (c_X10_goesOn l D cI cJ cC h0 h1 h2 h3 h5 h6 h7 h4 h7 v0_phases v0_has v0_thrown r1 r2 r3 r5 r6 r7 H.size l1 (r5 12) (r5 3) u2 e_u2) (cw_X10_175 S.2.2.2.2 ⟨Nat.le_of_ble_eq_true rfl, Nat.le_of_ble_eq_true rfl⟩) hK hP hD hS hA [0, 1, 2, 3, 5, 6, 7] [4] rfl rfl rfl (by decide) (by decide) (by decide) rfl rfl rfl rfl hl.1 rfl (Nat.le_of_ble_eq_true rfl) ⟨Nat.zero_le _, Nat.zero_le _⟩ rfl rfl dX10_forecast_103 (fun H locs hP hD hS => ?_)
      have hP : va_P D vwCl [(h4, .inl (cJ, 760, .inr (.inl r4))), (h0, .inr (10, [.ref h5, .ref h6, .ref h2, .ref h3, .ref h1, .int v0_phases, .ref h4, .ref h7, .int v0_has, .int v0_thrown])), (h1, .inl (cI, 20, .inl r1)), (h2, .inl (cI, 2, .inl r2)), (h3, .inl (cI, 20, .inl r3)), (h5, .inl (cI, 15, .inl r5)), (h6, .inl (cI, 12, .inl r6)), (h7, .inl (cJ, 760, .inr (.inl u2)))] H := hP
      have hD : va_D A [(h4, .inl (cJ, 760, .inr (.inl r4))), (h0, .inr (10, [.ref h5, .ref h6, .ref h2, .ref h3, .ref h1, .int v0_phases, .ref h4, .ref h7, .int v0_has, .int v0_thrown])), (h1, .inl (cI, 20, .inl r1)), (h2, .inl (cI, 2, .inl r2)), (h3, .inl (cI, 20, .inl r3)), (h5, .inl (cI, 15, .inl r5)), (h6, .inl (cI, 12, .inl r6)), (h7, .inl (cJ, 760, .inr (.inl u2)))] := hD
      refine lv_iload_n hx hb dX10_forecast_106 rfl (lv_at hl 2 rfl) ?_
      refine lv_if_ne (tgt := 119) hx hb dX10_forecast_107 (by decide) (fun c3 => ?_) (fun c3 => ?_)
      · have h := iteN c3 h
        refine lv_iload_n hx hb dX10_forecast_119 rfl (lv_at hl 2 rfl) ?_
        refine lv_iconst (v := 1) hx hb dX10_forecast_120 li_1 ?_
        refine lv_icmp_ne (tgt := 133) hx hb dX10_forecast_121 (by decide) (fun c4 => ?_) (fun c4 => ?_)
        · have h := iteN c4 h
          refine lv_iload_n hx hb dX10_forecast_133 rfl (lv_at hl 2 rfl) ?_
          refine lv_iconst (v := 2) hx hb dX10_forecast_134 li_2 ?_
          refine lv_icmp_ne (tgt := 148) hx hb dX10_forecast_135 (by decide) (fun c5 => ?_) (fun c5 => ?_)
          · have h := iteN c5 h
            refine lv_aload_n hx hb dX10_forecast_148 rfl (lv_at hl 0 rfl) ?_
            refine lv_aload_n hx hb dX10_forecast_149 rfl (lv_at hl 0 rfl) ?_
            refine gf_X10_29 (v := .ref h7) S hK hP 1 rfl rfl dX10_forecast_150 ?_
            refine lv_iconst (v := 0) hx hb dX10_forecast_153 li_0 ?_
            obtain ⟨z6, e_z6, h⟩ := obnd_eq h
            refine rdV (pc1 := 157) (rest := []) (st1 := [.long z6]) S (c_X10_bufferOf l D cI cJ cC h0 h5 h7 h6 h2 h3 h1 h4 h7 v0_phases v0_has v0_thrown r5 u2 0 z6 e_z6) (cw_X10_88 S.2.2.2.2 ⟨Nat.le_of_ble_eq_true rfl, Nat.le_of_ble_eq_true rfl⟩) hK (hP.sub [1, 5, 7] rfl) rfl rfl rfl rfl hl.1 rfl (Nat.le_of_ble_eq_true rfl) ⟨Nat.zero_le _, Nat.zero_le _⟩ rfl rfl dX10_forecast_154 ?_
            refine lv_lstore_n (lv' := [(3, .long z6), (0, .ref h0), (1, .int l1), (2, .int l2)]) hx hb dX10_forecast_157 rfl hl (by decide) rfl (fun ls hl => ?_)
            refine lv_lload_n hx hb dX10_forecast_158 rfl (lv_at hl 0 rfl) ?_
            refine lv_l2i hx hb dX10_forecast_159 rfl ?_
            have h := Option.some.inj h
            subst h
            exact wRi S hr hlk (hP.sub [1, 2, 3, 4, 0, 5, 6, 7] rfl) (hD.sub [1, 2, 3, 4, 0, 5, 6, 7] (by decide) rfl) hS dX10_forecast_160
          · have h := iteP c5 h
            refine lv_aload_n hx hb dX10_forecast_138 rfl (lv_at hl 0 rfl) ?_
            refine gf_X10_29 (v := .ref h7) S hK hP 1 rfl rfl dX10_forecast_139 ?_
            refine lv_bipush (v := 16) hx hb dX10_forecast_142 lb_16 ?_
            refine aldJ (k := 16) (q0 := 7) S hK hP rfl vl_16_760 tn_16 dX10_forecast_144 ?_
            refine lv_goto (tgt := 157) hx hb dX10_forecast_145 (by decide) ?_
            refine lv_lstore_n (lv' := [(3, .long (u2 16)), (0, .ref h0), (1, .int l1), (2, .int l2)]) hx hb dX10_forecast_157 rfl hl (by decide) rfl (fun ls hl => ?_)
            refine lv_lload_n hx hb dX10_forecast_158 rfl (lv_at hl 0 rfl) ?_
            refine lv_l2i hx hb dX10_forecast_159 rfl ?_
            have h := Option.some.inj h
            subst h
            exact wRi S hr hlk (hP.sub [1, 2, 3, 4, 0, 5, 6, 7] rfl) (hD.sub [1, 2, 3, 4, 0, 5, 6, 7] (by decide) rfl) hS dX10_forecast_160
        · have h := iteP c4 h
          refine lv_aload_n hx hb dX10_forecast_124 rfl (lv_at hl 0 rfl) ?_
          refine gf_X10_29 (v := .ref h7) S hK hP 1 rfl rfl dX10_forecast_125 ?_
          refine lv_iconst (v := 1) hx hb dX10_forecast_128 li_1 ?_
          refine aldJ (k := 1) (q0 := 7) S hK hP rfl vl_1_760 tn_1 dX10_forecast_129 ?_
          refine lv_goto (tgt := 157) hx hb dX10_forecast_130 (by decide) ?_
          refine lv_lstore_n (lv' := [(3, .long (u2 1)), (0, .ref h0), (1, .int l1), (2, .int l2)]) hx hb dX10_forecast_157 rfl hl (by decide) rfl (fun ls hl => ?_)
          refine lv_lload_n hx hb dX10_forecast_158 rfl (lv_at hl 0 rfl) ?_
          refine lv_l2i hx hb dX10_forecast_159 rfl ?_
          have h := Option.some.inj h
          subst h
          exact wRi S hr hlk (hP.sub [1, 2, 3, 4, 0, 5, 6, 7] rfl) (hD.sub [1, 2, 3, 4, 0, 5, 6, 7] (by decide) rfl) hS dX10_forecast_160
      · have h := iteP c3 h
        refine lv_aload_n hx hb dX10_forecast_110 rfl (lv_at hl 0 rfl) ?_
        refine gf_X10_29 (v := .ref h7) S hK hP 1 rfl rfl dX10_forecast_111 ?_
        refine lv_iconst (v := 2) hx hb dX10_forecast_114 li_2 ?_
        refine aldJ (k := 2) (q0 := 7) S hK hP rfl vl_2_760 tn_2 dX10_forecast_115 ?_
        refine lv_goto (tgt := 157) hx hb dX10_forecast_116 (by decide) ?_
        refine lv_lstore_n (lv' := [(3, .long (u2 2)), (0, .ref h0), (1, .int l1), (2, .int l2)]) hx hb dX10_forecast_157 rfl hl (by decide) rfl (fun ls hl => ?_)
        refine lv_lload_n hx hb dX10_forecast_158 rfl (lv_at hl 0 rfl) ?_
        refine lv_l2i hx hb dX10_forecast_159 rfl ?_
        have h := Option.some.inj h
        subst h
        exact wRi S hr hlk (hP.sub [1, 2, 3, 4, 0, 5, 6, 7] rfl) (hD.sub [1, 2, 3, 4, 0, 5, 6, 7] (by decide) rfl) hS dX10_forecast_160
    · have h := iteN c1 h
      refine lv_aload_n hx hb dX10_forecast_66 rfl (lv_at hl 0 rfl) ?_
      refine gf_X10_29 (v := .ref h7) S hK hP 0 rfl rfl dX10_forecast_67 ?_
      refine lv_iload_n hx hb dX10_forecast_70 rfl (lv_at hl 3 rfl) ?_
      refine lv_aload_n hx hb dX10_forecast_71 rfl (lv_at hl 0 rfl) ?_
      refine gf_X10_25 (v := .ref h4) S hK hP 0 rfl rfl dX10_forecast_72 ?_
      refine lv_iload_n hx hb dX10_forecast_75 rfl (lv_at hl 3 rfl) ?_
      refine aldJ (k := l3.toNatClampNeg) (q0 := 4) S hK hP rfl (vpb hi0 (nle32 c1) rfl) rfl dX10_forecast_76 ?_
      refine astJ (k := l3.toNatClampNeg) (q0 := 7) S hK hP hD hS rfl (vpb hi0 (nle32 c1) rfl) rfl dX10_forecast_77 (fun H locs hP hD hS => ?_)
      have hP : va_P D vwCl [(h0, .inr (10, [.ref h5, .ref h6, .ref h2, .ref h3, .ref h1, .int v0_phases, .ref h4, .ref h7, .int v0_has, .int v0_thrown])), (h1, .inl (cI, 20, .inl r1)), (h2, .inl (cI, 2, .inl r2)), (h3, .inl (cI, 20, .inl r3)), (h4, .inl (cJ, 760, .inr (.inl r4))), (h5, .inl (cI, 15, .inl r5)), (h6, .inl (cI, 12, .inl r6)), (h7, .inl (cJ, 760, .inr (.inl (vp_updL r7 l3.toNatClampNeg (r4 l3.toNatClampNeg)))))] H := hP
      have hD : va_D A [(h0, .inr (10, [.ref h5, .ref h6, .ref h2, .ref h3, .ref h1, .int v0_phases, .ref h4, .ref h7, .int v0_has, .int v0_thrown])), (h1, .inl (cI, 20, .inl r1)), (h2, .inl (cI, 2, .inl r2)), (h3, .inl (cI, 20, .inl r3)), (h4, .inl (cJ, 760, .inr (.inl r4))), (h5, .inl (cI, 15, .inl r5)), (h6, .inl (cI, 12, .inl r6)), (h7, .inl (cJ, 760, .inr (.inl (vp_updL r7 l3.toNatClampNeg (r4 l3.toNatClampNeg)))))] := hD
      obtain ⟨u7, e_u7⟩ : ∃ z, z = vp_updL r7 l3.toNatClampNeg (r4 l3.toNatClampNeg) := ⟨_, rfl⟩
      rw [← e_u7] at hP hD
      have h := bnd_eq e_u7.symm h
      refine lv_iinc (v := l3 + 1) (lv' := [(3, .int (l3 + 1)), (0, .ref h0), (1, .int l1), (2, .int l2)]) hx hb dX10_forecast_78 hl (k := 3) rfl rfl (by decide) rfl (fun ls hl => ?_)
      refine lv_goto (tgt := 59) hx hb dX10_forecast_81 (by decide) ?_
      exact ih v0_thrown u7 l1 l2 (l3 + 1) _ _ _ (by first | exact inc_nn hi0 (by assumption) | exact inc_nn hi0 (nle32 (by assumption))) (by first | exact mu_upA (by assumption) hmu | exact mu_upB (by assumption) hmu) h (hP.sub [0, 1, 2, 3, 4, 5, 6, 7] rfl) (hD.sub [0, 1, 2, 3, 4, 5, 6, 7] (by decide) rfl) hS (lv_sub hl [1, 2, 3, 0] rfl)
set_option maxHeartbeats 4000000 in
set_option maxRecDepth 100000 in
theorem c_X10_forecast (l : Launch) (D : va_G) (cI cJ cC : ClassId) (h0 h1 h2 h3 h4 h5 h6 h7 : Nat) (v0_phases v0_has v0_thrown : Int32) (r1 r2 r3 : Nat → Int32) (r4 : Nat → Int64) (r5 r6 : Nat → Int32) (r7 : Nat → Int64) (sz : Nat) (p0 p1 : Int32) (T : Int32 × Int32 × (Nat → Int64)) (h : f_X10_forecast v0_phases v0_has r1 r2 r3 r4 r5 r6 r7 p0 p1 = some T) : Met l yX10_forecast (Cond.code yX10_forecast cX10_forecast 5 (some .int) :: TB) rm_X10_forecast (PreW D cI cJ cC [(h0, .inr (10, [.ref h5, .ref h6, .ref h2, .ref h3, .ref h1, .int v0_phases, .ref h4, .ref h7, .int v0_has, .int v0_thrown])), (h1, .inl (cI, 20, .inl r1)), (h2, .inl (cI, 2, .inl r2)), (h3, .inl (cI, 20, .inl r3)), (h4, .inl (cJ, 760, .inr (.inl r4))), (h5, .inl (cI, 15, .inl r5)), (h6, .inl (cI, 12, .inl r6)), (h7, .inl (cJ, 760, .inr (.inl r7)))] sz [.ref h0, .int p0, .int p1]) (QW (some (.int T.1)) D [(h0, .inr (10, [.ref h5, .ref h6, .ref h2, .ref h3, .ref h1, .int v0_phases, .ref h4, .ref h7, .int v0_has, .int T.2.1])), (h1, .inl (cI, 20, .inl r1)), (h2, .inl (cI, 2, .inl r2)), (h3, .inl (cI, 20, .inl r3)), (h4, .inl (cJ, 760, .inr (.inl r4))), (h5, .inl (cI, 15, .inl r5)), (h6, .inl (cI, 12, .inl r6)), (h7, .inl (cJ, 760, .inr (.inl T.2.2)))] (va_A [(h0, .inr (10, [.ref h5, .ref h6, .ref h2, .ref h3, .ref h1, .int v0_phases, .ref h4, .ref h7, .int v0_has, .int v0_thrown])), (h1, .inl (cI, 20, .inl r1)), (h2, .inl (cI, 2, .inl r2)), (h3, .inl (cI, 20, .inl r3)), (h4, .inl (cJ, 760, .inr (.inl r4))), (h5, .inl (cI, 15, .inl r5)), (h6, .inl (cI, 12, .inl r6)), (h7, .inl (cJ, 760, .inr (.inl r7)))] sz)) 0 0 (va_A [(h0, .inr (10, [.ref h5, .ref h6, .ref h2, .ref h3, .ref h1, .int v0_phases, .ref h4, .ref h7, .int v0_has, .int v0_thrown])), (h1, .inl (cI, 20, .inl r1)), (h2, .inl (cI, 2, .inl r2)), (h3, .inl (cI, 20, .inl r3)), (h4, .inl (cJ, 760, .inr (.inl r4))), (h5, .inl (cI, 15, .inl r5)), (h6, .inl (cI, 12, .inl r6)), (h7, .inl (cJ, 760, .inr (.inl r7)))] sz) := by
  refine metW (own := RX10) (by decide) rfl (Nat.le_of_ble_eq_true rfl) ?_
  intro p e s m below meth c S hr hlk hP hK A hAe hD hA hS ls hl
  clear hAe
  have hx := S.1
  have hb := S.2.1
  have hl : lv_has ls 5 [(0, .ref h0), (1, .int p0), (2, .int p1)] := hl
  refine lv_aload_n hx hb dX10_forecast_0 rfl (lv_at hl 0 rfl) ?_
  refine lv_iload_n hx hb dX10_forecast_1 rfl (lv_at hl 1 rfl) ?_
  refine lv_i2l hx hb dX10_forecast_2 rfl ?_
  refine lv_lconst (v := 0) hx hb dX10_forecast_3 rfl ?_
  refine lv_ldc2 (v := 20000) hx hb S.2.2.2.1 (S.2.2.2.2 _ tb1069) dX10_forecast_4 ?_
  refine rdS (pc1 := 10) (rest := [.ref h0]) (st1 := [.int (f_X10_in p0.toInt64 0 20000), .ref h0]) S (c_X10_in l D cI cJ cC  p0.toInt64 0 20000 _ rfl) (cw_X10_39 S.2.2.2.2 ⟨Nat.le_of_ble_eq_true rfl, Nat.le_of_ble_eq_true rfl⟩) hK (hP.sub [] rfl) rfl hl.1 rfl (Nat.le_of_ble_eq_true rfl) ⟨Nat.zero_le _, Nat.zero_le _⟩ rfl rfl dX10_forecast_7 ?_
  refine lv_if_ne (tgt := 17) hx hb dX10_forecast_10 (by decide) (fun c1 => ?_) (fun c1 => ?_)
  · have h := iteN c1 h
    refine lv_iload_n hx hb dX10_forecast_17 rfl (lv_at hl 2 rfl) ?_
    refine lv_i2l hx hb dX10_forecast_18 rfl ?_
    refine lv_lconst (v := 0) hx hb dX10_forecast_19 rfl ?_
    refine lv_ldc2 (v := 3) hx hb S.2.2.2.1 (S.2.2.2.2 _ tb1047) dX10_forecast_20 ?_
    refine rdS (pc1 := 26) (rest := [.ref h0]) (st1 := [.int (f_X10_in p1.toInt64 0 3), .ref h0]) S (c_X10_in l D cI cJ cC  p1.toInt64 0 3 _ rfl) (cw_X10_39 S.2.2.2.2 ⟨Nat.le_of_ble_eq_true rfl, Nat.le_of_ble_eq_true rfl⟩) hK (hP.sub [] rfl) rfl hl.1 rfl (Nat.le_of_ble_eq_true rfl) ⟨Nat.zero_le _, Nat.zero_le _⟩ rfl rfl dX10_forecast_23 ?_
    refine lv_if_ne (tgt := 33) hx hb dX10_forecast_26 (by decide) (fun c2 => ?_) (fun c2 => ?_)
    · have h := iteN c2 h
      refine lv_aload_n hx hb dX10_forecast_33 rfl (lv_at hl 0 rfl) ?_
      refine gf_X10_53 (v := .int v0_has) S hK hP 0 rfl rfl dX10_forecast_34 ?_
      refine lv_if_eq (tgt := 44) hx hb dX10_forecast_37 (by decide) (fun c3 => ?_) (fun c3 => ?_)
      · have h := iteP c3 h
        refine lv_iconst (v := 3) hx hb dX10_forecast_44 li_3 ?_
        refine pf_X10_33 (v := .int 3) S hK hP hD hS 0 rfl (Nat.le_of_ble_eq_true rfl) rfl dX10_forecast_45 (fun H locs hP hD hS => ?_)
        have hP : va_P D vwCl [(h0, .inr (10, [.ref h5, .ref h6, .ref h2, .ref h3, .ref h1, .int v0_phases, .ref h4, .ref h7, .int v0_has, .int 3])), (h1, .inl (cI, 20, .inl r1)), (h2, .inl (cI, 2, .inl r2)), (h3, .inl (cI, 20, .inl r3)), (h4, .inl (cJ, 760, .inr (.inl r4))), (h5, .inl (cI, 15, .inl r5)), (h6, .inl (cI, 12, .inl r6)), (h7, .inl (cJ, 760, .inr (.inl r7)))] H := hP
        have hD : va_D A [(h0, .inr (10, [.ref h5, .ref h6, .ref h2, .ref h3, .ref h1, .int v0_phases, .ref h4, .ref h7, .int v0_has, .int 3])), (h1, .inl (cI, 20, .inl r1)), (h2, .inl (cI, 2, .inl r2)), (h3, .inl (cI, 20, .inl r3)), (h4, .inl (cJ, 760, .inr (.inl r4))), (h5, .inl (cI, 15, .inl r5)), (h6, .inl (cI, 12, .inl r6)), (h7, .inl (cJ, 760, .inr (.inl r7)))] := hD
        refine lv_aload_n hx hb dX10_forecast_48 rfl (lv_at hl 0 rfl) ?_
        refine gf_X10_33 (v := .int 3) S hK hP 0 rfl rfl dX10_forecast_49 ?_
        refine lv_if_eq (tgt := 57) hx hb dX10_forecast_52 (by decide) (fun c9 => absurd c9 (by decide)) (fun _ => ?_)
        refine lv_iconst (v := 0) hx hb dX10_forecast_55 li_0 ?_
        have h := Option.some.inj h
        subst h
        exact wRi S hr hlk (hP.sub [0, 1, 2, 3, 4, 5, 6, 7] rfl) (hD.sub [0, 1, 2, 3, 4, 5, 6, 7] (by decide) rfl) hS dX10_forecast_56
      · have h := iteN c3 h
        refine lv_iconst (v := 0) hx hb dX10_forecast_40 li_0 ?_
        refine lv_goto (tgt := 45) hx hb dX10_forecast_41 (by decide) ?_
        refine pf_X10_33 (v := .int 0) S hK hP hD hS 0 rfl (Nat.le_of_ble_eq_true rfl) rfl dX10_forecast_45 (fun H locs hP hD hS => ?_)
        have hP : va_P D vwCl [(h0, .inr (10, [.ref h5, .ref h6, .ref h2, .ref h3, .ref h1, .int v0_phases, .ref h4, .ref h7, .int v0_has, .int 0])), (h1, .inl (cI, 20, .inl r1)), (h2, .inl (cI, 2, .inl r2)), (h3, .inl (cI, 20, .inl r3)), (h4, .inl (cJ, 760, .inr (.inl r4))), (h5, .inl (cI, 15, .inl r5)), (h6, .inl (cI, 12, .inl r6)), (h7, .inl (cJ, 760, .inr (.inl r7)))] H := hP
        have hD : va_D A [(h0, .inr (10, [.ref h5, .ref h6, .ref h2, .ref h3, .ref h1, .int v0_phases, .ref h4, .ref h7, .int v0_has, .int 0])), (h1, .inl (cI, 20, .inl r1)), (h2, .inl (cI, 2, .inl r2)), (h3, .inl (cI, 20, .inl r3)), (h4, .inl (cJ, 760, .inr (.inl r4))), (h5, .inl (cI, 15, .inl r5)), (h6, .inl (cI, 12, .inl r6)), (h7, .inl (cJ, 760, .inr (.inl r7)))] := hD
        refine lv_aload_n hx hb dX10_forecast_48 rfl (lv_at hl 0 rfl) ?_
        refine gf_X10_33 (v := .int 0) S hK hP 0 rfl rfl dX10_forecast_49 ?_
        refine lv_if_eq (tgt := 57) hx hb dX10_forecast_52 (by decide) (fun _ => ?_) (fun c9 => absurd (by decide) c9)
        refine lv_iconst (v := 0) hx hb dX10_forecast_57 li_0 ?_
        refine lv_istore_n (lv' := [(3, .int 0), (0, .ref h0), (1, .int p0), (2, .int p1)]) hx hb dX10_forecast_58 rfl hl (by decide) rfl (fun ls hl => ?_)
        exact k_X10_forecast_b59 S hr hlk hK hA _ 0 r7 p0 p1 0 _ _ _ (by decide) (Nat.lt_succ_self _) h (hP.sub [0, 1, 2, 3, 4, 5, 6, 7] rfl) (hD.sub [0, 1, 2, 3, 4, 5, 6, 7] (by decide) rfl) hS (lv_sub hl [1, 2, 3, 0] rfl)
    · have h := iteP c2 h
      refine lv_iconst (v := 2) hx hb dX10_forecast_29 li_2 ?_
      refine lv_goto (tgt := 45) hx hb dX10_forecast_30 (by decide) ?_
      refine pf_X10_33 (v := .int 2) S hK hP hD hS 0 rfl (Nat.le_of_ble_eq_true rfl) rfl dX10_forecast_45 (fun H locs hP hD hS => ?_)
      have hP : va_P D vwCl [(h0, .inr (10, [.ref h5, .ref h6, .ref h2, .ref h3, .ref h1, .int v0_phases, .ref h4, .ref h7, .int v0_has, .int 2])), (h1, .inl (cI, 20, .inl r1)), (h2, .inl (cI, 2, .inl r2)), (h3, .inl (cI, 20, .inl r3)), (h4, .inl (cJ, 760, .inr (.inl r4))), (h5, .inl (cI, 15, .inl r5)), (h6, .inl (cI, 12, .inl r6)), (h7, .inl (cJ, 760, .inr (.inl r7)))] H := hP
      have hD : va_D A [(h0, .inr (10, [.ref h5, .ref h6, .ref h2, .ref h3, .ref h1, .int v0_phases, .ref h4, .ref h7, .int v0_has, .int 2])), (h1, .inl (cI, 20, .inl r1)), (h2, .inl (cI, 2, .inl r2)), (h3, .inl (cI, 20, .inl r3)), (h4, .inl (cJ, 760, .inr (.inl r4))), (h5, .inl (cI, 15, .inl r5)), (h6, .inl (cI, 12, .inl r6)), (h7, .inl (cJ, 760, .inr (.inl r7)))] := hD
      refine lv_aload_n hx hb dX10_forecast_48 rfl (lv_at hl 0 rfl) ?_
      refine gf_X10_33 (v := .int 2) S hK hP 0 rfl rfl dX10_forecast_49 ?_
      refine lv_if_eq (tgt := 57) hx hb dX10_forecast_52 (by decide) (fun c9 => absurd c9 (by decide)) (fun _ => ?_)
      refine lv_iconst (v := 0) hx hb dX10_forecast_55 li_0 ?_
      have h := Option.some.inj h
      subst h
      exact wRi S hr hlk (hP.sub [0, 1, 2, 3, 4, 5, 6, 7] rfl) (hD.sub [0, 1, 2, 3, 4, 5, 6, 7] (by decide) rfl) hS dX10_forecast_56
  · have h := iteP c1 h
    refine lv_iconst (v := 1) hx hb dX10_forecast_13 li_1 ?_
    refine lv_goto (tgt := 45) hx hb dX10_forecast_14 (by decide) ?_
    refine pf_X10_33 (v := .int 1) S hK hP hD hS 0 rfl (Nat.le_of_ble_eq_true rfl) rfl dX10_forecast_45 (fun H locs hP hD hS => ?_)
    have hP : va_P D vwCl [(h0, .inr (10, [.ref h5, .ref h6, .ref h2, .ref h3, .ref h1, .int v0_phases, .ref h4, .ref h7, .int v0_has, .int 1])), (h1, .inl (cI, 20, .inl r1)), (h2, .inl (cI, 2, .inl r2)), (h3, .inl (cI, 20, .inl r3)), (h4, .inl (cJ, 760, .inr (.inl r4))), (h5, .inl (cI, 15, .inl r5)), (h6, .inl (cI, 12, .inl r6)), (h7, .inl (cJ, 760, .inr (.inl r7)))] H := hP
    have hD : va_D A [(h0, .inr (10, [.ref h5, .ref h6, .ref h2, .ref h3, .ref h1, .int v0_phases, .ref h4, .ref h7, .int v0_has, .int 1])), (h1, .inl (cI, 20, .inl r1)), (h2, .inl (cI, 2, .inl r2)), (h3, .inl (cI, 20, .inl r3)), (h4, .inl (cJ, 760, .inr (.inl r4))), (h5, .inl (cI, 15, .inl r5)), (h6, .inl (cI, 12, .inl r6)), (h7, .inl (cJ, 760, .inr (.inl r7)))] := hD
    refine lv_aload_n hx hb dX10_forecast_48 rfl (lv_at hl 0 rfl) ?_
    refine gf_X10_33 (v := .int 1) S hK hP 0 rfl rfl dX10_forecast_49 ?_
    refine lv_if_eq (tgt := 57) hx hb dX10_forecast_52 (by decide) (fun c9 => absurd c9 (by decide)) (fun _ => ?_)
    refine lv_iconst (v := 0) hx hb dX10_forecast_55 li_0 ?_
    have h := Option.some.inj h
    subst h
    exact wRi S hr hlk (hP.sub [0, 1, 2, 3, 4, 5, 6, 7] rfl) (hD.sub [0, 1, 2, 3, 4, 5, 6, 7] (by decide) rfl) hS dX10_forecast_56
abbrev rm_X10_scoreBy : Room := { frames := 5, cells := 0, slots := 0, locals := 135 }
theorem dX10_scoreBy_0 : decode cX10_scoreBy 0 = .ok (.aload_n 0, 1) := by decide +kernel
theorem dX10_scoreBy_1 : decode cX10_scoreBy 1 = .ok (.getfield 29, 3) := by decide +kernel
theorem dX10_scoreBy_4 : decode cX10_scoreBy 4 = .ok (.invokestatic 168, 3) := by decide +kernel
theorem dX10_scoreBy_7 : decode cX10_scoreBy 7 = .ok (.aload_n 0, 1) := by decide +kernel
theorem dX10_scoreBy_8 : decode cX10_scoreBy 8 = .ok (.aload_n 0, 1) := by decide +kernel
theorem dX10_scoreBy_9 : decode cX10_scoreBy 9 = .ok (.getfield 29, 3) := by decide +kernel
theorem dX10_scoreBy_12 : decode cX10_scoreBy 12 = .ok (.iload_n 2, 1) := by decide +kernel
theorem dX10_scoreBy_13 : decode cX10_scoreBy 13 = .ok (.iload_n 1, 1) := by decide +kernel
theorem dX10_scoreBy_14 : decode cX10_scoreBy 14 = .ok (.aload_n 0, 1) := by decide +kernel
theorem dX10_scoreBy_15 : decode cX10_scoreBy 15 = .ok (.getfield 7, 3) := by decide +kernel
theorem dX10_scoreBy_18 : decode cX10_scoreBy 18 = .ok (.iconst 3, 1) := by decide +kernel
theorem dX10_scoreBy_19 : decode cX10_scoreBy 19 = .ok (.iaload, 1) := by decide +kernel
theorem dX10_scoreBy_20 : decode cX10_scoreBy 20 = .ok (.invokevirtual 175, 3) := by decide +kernel
theorem dX10_scoreBy_23 : decode cX10_scoreBy 23 = .ok (.aload_n 0, 1) := by decide +kernel
theorem dX10_scoreBy_24 : decode cX10_scoreBy 24 = .ok (.aload_n 0, 1) := by decide +kernel
theorem dX10_scoreBy_25 : decode cX10_scoreBy 25 = .ok (.getfield 29, 3) := by decide +kernel
theorem dX10_scoreBy_28 : decode cX10_scoreBy 28 = .ok (.invokevirtual 193, 3) := by decide +kernel
theorem dX10_scoreBy_31 : decode cX10_scoreBy 31 = .ok (.lreturn, 1) := by decide +kernel
def f_X10_scoreBy (v0_phases : Int32) (r1 r2 r3 r4 r5 : Nat → Int32) (r6 : Nat → Int64) (p0 p1 : Int32) : Option (Int64 × (Nat → Int64)) :=
  bnd (f_X10_clears r6) fun (u1 : Nat → Int64) =>
  obnd (f_X10_goesOn v0_phases r1 r2 r3 r4 r5 u1 p1 p0 (r4 3)) fun (u2 : Nat → Int64) =>
  obnd (f_X10_scoreOf r2 r5 u2) fun (z3 : Int64) =>
  some (z3, u2)
set_option maxHeartbeats 4000000 in
set_option maxRecDepth 100000 in
theorem c_X10_scoreBy (l : Launch) (D : va_G) (cI cJ cC : ClassId) (h0 h1 h2 h3 h4 h5 h6 kthis_now : Nat) (v0_phases v0_has v0_thrown : Int32) (r1 r2 r3 r4 r5 : Nat → Int32) (r6 : Nat → Int64) (sz : Nat) (p0 p1 : Int32) (T : Int64 × (Nat → Int64)) (h : f_X10_scoreBy v0_phases r1 r2 r3 r4 r5 r6 p0 p1 = some T) : Met l yX10_scoreBy (Cond.code yX10_scoreBy cX10_scoreBy 3 (some .long) :: TB) rm_X10_scoreBy (PreW D cI cJ cC [(h0, .inr (10, [.ref h4, .ref h5, .ref h2, .ref h3, .ref h1, .int v0_phases, .ref kthis_now, .ref h6, .int v0_has, .int v0_thrown])), (h1, .inl (cI, 20, .inl r1)), (h2, .inl (cI, 2, .inl r2)), (h3, .inl (cI, 20, .inl r3)), (h4, .inl (cI, 15, .inl r4)), (h5, .inl (cI, 12, .inl r5)), (h6, .inl (cJ, 760, .inr (.inl r6)))] sz [.ref h0, .int p0, .int p1]) (QW (some (.long T.1)) D [(h0, .inr (10, [.ref h4, .ref h5, .ref h2, .ref h3, .ref h1, .int v0_phases, .ref kthis_now, .ref h6, .int v0_has, .int v0_thrown])), (h1, .inl (cI, 20, .inl r1)), (h2, .inl (cI, 2, .inl r2)), (h3, .inl (cI, 20, .inl r3)), (h4, .inl (cI, 15, .inl r4)), (h5, .inl (cI, 12, .inl r5)), (h6, .inl (cJ, 760, .inr (.inl T.2)))] (va_A [(h0, .inr (10, [.ref h4, .ref h5, .ref h2, .ref h3, .ref h1, .int v0_phases, .ref kthis_now, .ref h6, .int v0_has, .int v0_thrown])), (h1, .inl (cI, 20, .inl r1)), (h2, .inl (cI, 2, .inl r2)), (h3, .inl (cI, 20, .inl r3)), (h4, .inl (cI, 15, .inl r4)), (h5, .inl (cI, 12, .inl r5)), (h6, .inl (cJ, 760, .inr (.inl r6)))] sz)) 0 0 (va_A [(h0, .inr (10, [.ref h4, .ref h5, .ref h2, .ref h3, .ref h1, .int v0_phases, .ref kthis_now, .ref h6, .int v0_has, .int v0_thrown])), (h1, .inl (cI, 20, .inl r1)), (h2, .inl (cI, 2, .inl r2)), (h3, .inl (cI, 20, .inl r3)), (h4, .inl (cI, 15, .inl r4)), (h5, .inl (cI, 12, .inl r5)), (h6, .inl (cJ, 760, .inr (.inl r6)))] sz) := by
  refine metW (own := RX10) (by decide) rfl (Nat.le_of_ble_eq_true rfl) ?_
  intro p e s m below meth c S hr hlk hP hK A hAe hD hA hS ls hl
  clear hAe
  have hx := S.1
  have hb := S.2.1
  have hl : lv_has ls 3 [(0, .ref h0), (1, .int p0), (2, .int p1)] := hl
  refine lv_aload_n hx hb dX10_scoreBy_0 rfl (lv_at hl 0 rfl) ?_
  refine gf_X10_29 (v := .ref h6) S hK hP 0 rfl rfl dX10_scoreBy_1 ?_
  obtain ⟨u1, e_u1⟩ : ∃ a0, f_X10_clears r6 = a0 := ⟨_, rfl⟩
  have h := bnd_eq e_u1 h
  refine wrS (pc1 := 7) (rest := []) (st1 := []) (wr := [(h0, .inr (10, [.ref h4, .ref h5, .ref h2, .ref h3, .ref h1, .int v0_phases, .ref kthis_now, .ref h6, .int v0_has, .int v0_thrown])), (h1, .inl (cI, 20, .inl r1)), (h2, .inl (cI, 2, .inl r2)), (h3, .inl (cI, 20, .inl r3)), (h4, .inl (cI, 15, .inl r4)), (h5, .inl (cI, 12, .inl r5))]) S (c_X10_clears l D cI cJ cC h6 r6 s.heap.size  u1 e_u1) (cw_X10_168 S.2.2.2.2 ⟨Nat.le_of_ble_eq_true rfl, Nat.le_of_ble_eq_true rfl⟩) hK hP hD hS hA [6] [0, 1, 2, 3, 4, 5] rfl rfl rfl (by decide) (by decide) (by decide) rfl hl.1 rfl (Nat.le_of_ble_eq_true rfl) ⟨Nat.zero_le _, Nat.zero_le _⟩ rfl rfl dX10_scoreBy_4 (fun H locs hP hD hS => ?_)
  have hP : va_P D vwCl [(h0, .inr (10, [.ref h4, .ref h5, .ref h2, .ref h3, .ref h1, .int v0_phases, .ref kthis_now, .ref h6, .int v0_has, .int v0_thrown])), (h1, .inl (cI, 20, .inl r1)), (h2, .inl (cI, 2, .inl r2)), (h3, .inl (cI, 20, .inl r3)), (h4, .inl (cI, 15, .inl r4)), (h5, .inl (cI, 12, .inl r5)), (h6, .inl (cJ, 760, .inr (.inl u1)))] H := hP
  have hD : va_D A [(h0, .inr (10, [.ref h4, .ref h5, .ref h2, .ref h3, .ref h1, .int v0_phases, .ref kthis_now, .ref h6, .int v0_has, .int v0_thrown])), (h1, .inl (cI, 20, .inl r1)), (h2, .inl (cI, 2, .inl r2)), (h3, .inl (cI, 20, .inl r3)), (h4, .inl (cI, 15, .inl r4)), (h5, .inl (cI, 12, .inl r5)), (h6, .inl (cJ, 760, .inr (.inl u1)))] := hD
  refine lv_aload_n hx hb dX10_scoreBy_7 rfl (lv_at hl 0 rfl) ?_
  refine lv_aload_n hx hb dX10_scoreBy_8 rfl (lv_at hl 0 rfl) ?_
  refine gf_X10_29 (v := .ref h6) S hK hP 0 rfl rfl dX10_scoreBy_9 ?_
  refine lv_iload_n hx hb dX10_scoreBy_12 rfl (lv_at hl 2 rfl) ?_
  refine lv_iload_n hx hb dX10_scoreBy_13 rfl (lv_at hl 1 rfl) ?_
  refine lv_aload_n hx hb dX10_scoreBy_14 rfl (lv_at hl 0 rfl) ?_
  refine gf_X10_7 (v := .ref h4) S hK hP 0 rfl rfl dX10_scoreBy_15 ?_
  refine lv_iconst (v := 3) hx hb dX10_scoreBy_18 li_3 ?_
  refine aldI (k := 3) (q0 := 4) S hK hP rfl vl_3_15 tn_3 dX10_scoreBy_19 ?_
  obtain ⟨u2, e_u2, h⟩ := obnd_eq h
  refine wrV (pc1 := 23) (rest := []) (st1 := []) (wr := []) S (c_X10_goesOn l D cI cJ cC h0 h1 h2 h3 h4 h5 h6 kthis_now h6 v0_phases v0_has v0_thrown r1 r2 r3 r4 r5 u1 H.size p1 p0 (r4 3) u2 e_u2) (cw_X10_175 S.2.2.2.2 ⟨Nat.le_of_ble_eq_true rfl, Nat.le_of_ble_eq_true rfl⟩) hK hP hD hS hA [0, 1, 2, 3, 4, 5, 6] [] rfl rfl rfl (by decide) (by decide) (by decide) rfl rfl rfl rfl hl.1 rfl (Nat.le_of_ble_eq_true rfl) ⟨Nat.zero_le _, Nat.zero_le _⟩ rfl rfl dX10_scoreBy_20 (fun H locs hP hD hS => ?_)
  have hP : va_P D vwCl [(h0, .inr (10, [.ref h4, .ref h5, .ref h2, .ref h3, .ref h1, .int v0_phases, .ref kthis_now, .ref h6, .int v0_has, .int v0_thrown])), (h1, .inl (cI, 20, .inl r1)), (h2, .inl (cI, 2, .inl r2)), (h3, .inl (cI, 20, .inl r3)), (h4, .inl (cI, 15, .inl r4)), (h5, .inl (cI, 12, .inl r5)), (h6, .inl (cJ, 760, .inr (.inl u2)))] H := hP
  have hD : va_D A [(h0, .inr (10, [.ref h4, .ref h5, .ref h2, .ref h3, .ref h1, .int v0_phases, .ref kthis_now, .ref h6, .int v0_has, .int v0_thrown])), (h1, .inl (cI, 20, .inl r1)), (h2, .inl (cI, 2, .inl r2)), (h3, .inl (cI, 20, .inl r3)), (h4, .inl (cI, 15, .inl r4)), (h5, .inl (cI, 12, .inl r5)), (h6, .inl (cJ, 760, .inr (.inl u2)))] := hD
  refine lv_aload_n hx hb dX10_scoreBy_23 rfl (lv_at hl 0 rfl) ?_
  refine lv_aload_n hx hb dX10_scoreBy_24 rfl (lv_at hl 0 rfl) ?_
  refine gf_X10_29 (v := .ref h6) S hK hP 0 rfl rfl dX10_scoreBy_25 ?_
  obtain ⟨z3, e_z3, h⟩ := obnd_eq h
  refine rdV (pc1 := 31) (rest := []) (st1 := [.long z3]) S (c_X10_scoreOf l D cI cJ cC h0 h2 h5 h6 h4 h3 h1 kthis_now h6 v0_phases v0_has v0_thrown r2 r5 u2  z3 e_z3) (cw_X10_193 S.2.2.2.2 ⟨Nat.le_of_ble_eq_true rfl, Nat.le_of_ble_eq_true rfl⟩) hK (hP.sub [0, 2, 5, 6] rfl) rfl rfl rfl rfl hl.1 rfl (Nat.le_of_ble_eq_true rfl) ⟨Nat.zero_le _, Nat.zero_le _⟩ rfl rfl dX10_scoreBy_28 ?_
  have h := Option.some.inj h
  subst h
  exact wRl S hr hlk (hP.sub [0, 1, 2, 3, 4, 5, 6] rfl) (hD.sub [0, 1, 2, 3, 4, 5, 6] (by decide) rfl) hS dX10_scoreBy_31
abbrev rm_X10_trialScore : Room := { frames := 6, cells := 0, slots := 0, locals := 157 }
theorem dX10_trialScore_0 : decode cX10_trialScore 0 = .ok (.aload_n 0, 1) := by decide +kernel
theorem dX10_trialScore_1 : decode cX10_trialScore 1 = .ok (.iload_n 1, 1) := by decide +kernel
theorem dX10_trialScore_2 : decode cX10_trialScore 2 = .ok (.i2l, 1) := by decide +kernel
theorem dX10_trialScore_3 : decode cX10_trialScore 3 = .ok (.lconst 0, 1) := by decide +kernel
theorem dX10_trialScore_4 : decode cX10_trialScore 4 = .ok (.ldc2_w 131, 3) := by decide +kernel
theorem dX10_trialScore_7 : decode cX10_trialScore 7 = .ok (.invokestatic 39, 3) := by decide +kernel
theorem dX10_trialScore_10 : decode cX10_trialScore 10 = .ok (.ifCond .eq 15, 3) := by decide +kernel
theorem dX10_trialScore_13 : decode cX10_trialScore 13 = .ok (.iload_n 2, 1) := by decide +kernel
theorem dX10_trialScore_14 : decode cX10_trialScore 14 = .ok (.i2l, 1) := by decide +kernel
theorem dX10_trialScore_15 : decode cX10_trialScore 15 = .ok (.lconst 0, 1) := by decide +kernel
theorem dX10_trialScore_16 : decode cX10_trialScore 16 = .ok (.ldc2_w 171, 3) := by decide +kernel
theorem dX10_trialScore_19 : decode cX10_trialScore 19 = .ok (.invokestatic 39, 3) := by decide +kernel
theorem dX10_trialScore_22 : decode cX10_trialScore 22 = .ok (.ifCond .ne 7, 3) := by decide +kernel
theorem dX10_trialScore_25 : decode cX10_trialScore 25 = .ok (.iconst 1, 1) := by decide +kernel
theorem dX10_trialScore_26 : decode cX10_trialScore 26 = .ok (.goto 15, 3) := by decide +kernel
theorem dX10_trialScore_29 : decode cX10_trialScore 29 = .ok (.aload_n 0, 1) := by decide +kernel
theorem dX10_trialScore_30 : decode cX10_trialScore 30 = .ok (.invokevirtual 164, 3) := by decide +kernel
theorem dX10_trialScore_33 : decode cX10_trialScore 33 = .ok (.ifCond .eq 7, 3) := by decide +kernel
theorem dX10_trialScore_36 : decode cX10_trialScore 36 = .ok (.iconst 2, 1) := by decide +kernel
theorem dX10_trialScore_37 : decode cX10_trialScore 37 = .ok (.goto 4, 3) := by decide +kernel
theorem dX10_trialScore_40 : decode cX10_trialScore 40 = .ok (.iconst 0, 1) := by decide +kernel
theorem dX10_trialScore_41 : decode cX10_trialScore 41 = .ok (.putfield 33, 3) := by decide +kernel
theorem dX10_trialScore_44 : decode cX10_trialScore 44 = .ok (.aload_n 0, 1) := by decide +kernel
theorem dX10_trialScore_45 : decode cX10_trialScore 45 = .ok (.getfield 33, 3) := by decide +kernel
theorem dX10_trialScore_48 : decode cX10_trialScore 48 = .ok (.ifCond .ne 12, 3) := by decide +kernel
theorem dX10_trialScore_51 : decode cX10_trialScore 51 = .ok (.aload_n 0, 1) := by decide +kernel
theorem dX10_trialScore_52 : decode cX10_trialScore 52 = .ok (.iload_n 1, 1) := by decide +kernel
theorem dX10_trialScore_53 : decode cX10_trialScore 53 = .ok (.iload_n 2, 1) := by decide +kernel
theorem dX10_trialScore_54 : decode cX10_trialScore 54 = .ok (.invokevirtual 196, 3) := by decide +kernel
theorem dX10_trialScore_57 : decode cX10_trialScore 57 = .ok (.goto 4, 3) := by decide +kernel
theorem dX10_trialScore_60 : decode cX10_trialScore 60 = .ok (.lconst 0, 1) := by decide +kernel
theorem dX10_trialScore_61 : decode cX10_trialScore 61 = .ok (.lreturn, 1) := by decide +kernel
theorem cw_X10_196 {R : Room} {s : State} {args : Array Value} (hts : ∀ w ∈ TB, w.before args s = true) (hR : rm_X10_scoreBy.frames + 1 ≤ R.frames ∧ 8 + (3 + 11) + rm_X10_scoreBy.locals ≤ R.locals) : CallW R s args RX10 RX10 196 yX10_scoreBy cX10_scoreBy 3 (some .long) (Cond.code yX10_scoreBy cX10_scoreBy 3 (some .long) :: TB) rm_X10_scoreBy 0 0 2 := cwV 2 hts (gV tb1220 tb1221 tb44 tb57 tb1222) rfl rfl rfl ⟨rfl, by decide, by decide, by decide +kernel⟩ hR
def f_X10_trialScore (v0_phases : Int32) (r1 r2 r3 r4 r5 : Nat → Int32) (r6 : Nat → Int64) (p0 p1 : Int32) : Option (Int64 × Int32 × (Nat → Int64)) :=
  if (f_X10_in p0.toInt64 0 2) = 0 then
    some (0, 1, r6)
  else
    if (f_X10_in p1.toInt64 0 20000) = 0 then
      some (0, 1, r6)
    else
      if (f_X10_cannotStart v0_phases r2) = 0 then
        obnd2 (f_X10_scoreBy v0_phases r1 r2 r3 r4 r5 r6 p0 p1) fun (z4 : Int64) (u5 : Nat → Int64) =>
        some (z4, 0, u5)
      else
        some (0, 2, r6)
set_option maxHeartbeats 4000000 in
set_option maxRecDepth 100000 in
theorem c_X10_trialScore (l : Launch) (D : va_G) (cI cJ cC : ClassId) (h0 h1 h2 h3 h4 h5 h6 kthis_now : Nat) (v0_phases v0_has v0_thrown : Int32) (r1 r2 r3 r4 r5 : Nat → Int32) (r6 : Nat → Int64) (sz : Nat) (p0 p1 : Int32) (T : Int64 × Int32 × (Nat → Int64)) (h : f_X10_trialScore v0_phases r1 r2 r3 r4 r5 r6 p0 p1 = some T) : Met l yX10_trialScore (Cond.code yX10_trialScore cX10_trialScore 3 (some .long) :: TB) rm_X10_trialScore (PreW D cI cJ cC [(h0, .inr (10, [.ref h4, .ref h5, .ref h2, .ref h3, .ref h1, .int v0_phases, .ref kthis_now, .ref h6, .int v0_has, .int v0_thrown])), (h1, .inl (cI, 20, .inl r1)), (h2, .inl (cI, 2, .inl r2)), (h3, .inl (cI, 20, .inl r3)), (h4, .inl (cI, 15, .inl r4)), (h5, .inl (cI, 12, .inl r5)), (h6, .inl (cJ, 760, .inr (.inl r6)))] sz [.ref h0, .int p0, .int p1]) (QW (some (.long T.1)) D [(h0, .inr (10, [.ref h4, .ref h5, .ref h2, .ref h3, .ref h1, .int v0_phases, .ref kthis_now, .ref h6, .int v0_has, .int T.2.1])), (h1, .inl (cI, 20, .inl r1)), (h2, .inl (cI, 2, .inl r2)), (h3, .inl (cI, 20, .inl r3)), (h4, .inl (cI, 15, .inl r4)), (h5, .inl (cI, 12, .inl r5)), (h6, .inl (cJ, 760, .inr (.inl T.2.2)))] (va_A [(h0, .inr (10, [.ref h4, .ref h5, .ref h2, .ref h3, .ref h1, .int v0_phases, .ref kthis_now, .ref h6, .int v0_has, .int v0_thrown])), (h1, .inl (cI, 20, .inl r1)), (h2, .inl (cI, 2, .inl r2)), (h3, .inl (cI, 20, .inl r3)), (h4, .inl (cI, 15, .inl r4)), (h5, .inl (cI, 12, .inl r5)), (h6, .inl (cJ, 760, .inr (.inl r6)))] sz)) 0 0 (va_A [(h0, .inr (10, [.ref h4, .ref h5, .ref h2, .ref h3, .ref h1, .int v0_phases, .ref kthis_now, .ref h6, .int v0_has, .int v0_thrown])), (h1, .inl (cI, 20, .inl r1)), (h2, .inl (cI, 2, .inl r2)), (h3, .inl (cI, 20, .inl r3)), (h4, .inl (cI, 15, .inl r4)), (h5, .inl (cI, 12, .inl r5)), (h6, .inl (cJ, 760, .inr (.inl r6)))] sz) := by
  refine metW (own := RX10) (by decide) rfl (Nat.le_of_ble_eq_true rfl) ?_
  intro p e s m below meth c S hr hlk hP hK A hAe hD hA hS ls hl
  clear hAe
  have hx := S.1
  have hb := S.2.1
  have hl : lv_has ls 3 [(0, .ref h0), (1, .int p0), (2, .int p1)] := hl
  refine lv_aload_n hx hb dX10_trialScore_0 rfl (lv_at hl 0 rfl) ?_
  refine lv_iload_n hx hb dX10_trialScore_1 rfl (lv_at hl 1 rfl) ?_
  refine lv_i2l hx hb dX10_trialScore_2 rfl ?_
  refine lv_lconst (v := 0) hx hb dX10_trialScore_3 rfl ?_
  refine lv_ldc2 (v := 2) hx hb S.2.2.2.1 (S.2.2.2.2 _ tb1082) dX10_trialScore_4 ?_
  refine rdS (pc1 := 10) (rest := [.ref h0]) (st1 := [.int (f_X10_in p0.toInt64 0 2), .ref h0]) S (c_X10_in l D cI cJ cC  p0.toInt64 0 2 _ rfl) (cw_X10_39 S.2.2.2.2 ⟨Nat.le_of_ble_eq_true rfl, Nat.le_of_ble_eq_true rfl⟩) hK (hP.sub [] rfl) rfl hl.1 rfl (Nat.le_of_ble_eq_true rfl) ⟨Nat.zero_le _, Nat.zero_le _⟩ rfl rfl dX10_trialScore_7 ?_
  refine lv_if_eq (tgt := 25) hx hb dX10_trialScore_10 (by decide) (fun c1 => ?_) (fun c1 => ?_)
  · have h := iteP c1 h
    refine lv_iconst (v := 1) hx hb dX10_trialScore_25 li_1 ?_
    refine lv_goto (tgt := 41) hx hb dX10_trialScore_26 (by decide) ?_
    refine pf_X10_33 (v := .int 1) S hK hP hD hS 0 rfl (Nat.le_of_ble_eq_true rfl) rfl dX10_trialScore_41 (fun H locs hP hD hS => ?_)
    have hP : va_P D vwCl [(h0, .inr (10, [.ref h4, .ref h5, .ref h2, .ref h3, .ref h1, .int v0_phases, .ref kthis_now, .ref h6, .int v0_has, .int 1])), (h1, .inl (cI, 20, .inl r1)), (h2, .inl (cI, 2, .inl r2)), (h3, .inl (cI, 20, .inl r3)), (h4, .inl (cI, 15, .inl r4)), (h5, .inl (cI, 12, .inl r5)), (h6, .inl (cJ, 760, .inr (.inl r6)))] H := hP
    have hD : va_D A [(h0, .inr (10, [.ref h4, .ref h5, .ref h2, .ref h3, .ref h1, .int v0_phases, .ref kthis_now, .ref h6, .int v0_has, .int 1])), (h1, .inl (cI, 20, .inl r1)), (h2, .inl (cI, 2, .inl r2)), (h3, .inl (cI, 20, .inl r3)), (h4, .inl (cI, 15, .inl r4)), (h5, .inl (cI, 12, .inl r5)), (h6, .inl (cJ, 760, .inr (.inl r6)))] := hD
    refine lv_aload_n hx hb dX10_trialScore_44 rfl (lv_at hl 0 rfl) ?_
    refine gf_X10_33 (v := .int 1) S hK hP 0 rfl rfl dX10_trialScore_45 ?_
    refine lv_if_ne (tgt := 60) hx hb dX10_trialScore_48 (by decide) (fun _ => ?_) (fun c9 => absurd c9 (by decide))
    refine lv_lconst (v := 0) hx hb dX10_trialScore_60 rfl ?_
    have h := Option.some.inj h
    subst h
    exact wRl S hr hlk (hP.sub [0, 1, 2, 3, 4, 5, 6] rfl) (hD.sub [0, 1, 2, 3, 4, 5, 6] (by decide) rfl) hS dX10_trialScore_61
  · have h := iteN c1 h
    refine lv_iload_n hx hb dX10_trialScore_13 rfl (lv_at hl 2 rfl) ?_
    refine lv_i2l hx hb dX10_trialScore_14 rfl ?_
    refine lv_lconst (v := 0) hx hb dX10_trialScore_15 rfl ?_
    refine lv_ldc2 (v := 20000) hx hb S.2.2.2.1 (S.2.2.2.2 _ tb1069) dX10_trialScore_16 ?_
    refine rdS (pc1 := 22) (rest := [.ref h0]) (st1 := [.int (f_X10_in p1.toInt64 0 20000), .ref h0]) S (c_X10_in l D cI cJ cC  p1.toInt64 0 20000 _ rfl) (cw_X10_39 S.2.2.2.2 ⟨Nat.le_of_ble_eq_true rfl, Nat.le_of_ble_eq_true rfl⟩) hK (hP.sub [] rfl) rfl hl.1 rfl (Nat.le_of_ble_eq_true rfl) ⟨Nat.zero_le _, Nat.zero_le _⟩ rfl rfl dX10_trialScore_19 ?_
    refine lv_if_ne (tgt := 29) hx hb dX10_trialScore_22 (by decide) (fun c2 => ?_) (fun c2 => ?_)
    · have h := iteN c2 h
      refine lv_aload_n hx hb dX10_trialScore_29 rfl (lv_at hl 0 rfl) ?_
      refine rdV (pc1 := 33) (rest := [.ref h0]) (st1 := [.int (f_X10_cannotStart v0_phases r2), .ref h0]) S (c_X10_cannotStart l D cI cJ cC h0 h2 h4 h5 h3 h1 kthis_now h6 v0_phases v0_has v0_thrown r2  _ rfl) (cw_X10_164 S.2.2.2.2 ⟨Nat.le_of_ble_eq_true rfl, Nat.le_of_ble_eq_true rfl⟩) hK (hP.sub [0, 2] rfl) rfl rfl rfl rfl hl.1 rfl (Nat.le_of_ble_eq_true rfl) ⟨Nat.zero_le _, Nat.zero_le _⟩ rfl rfl dX10_trialScore_30 ?_
      refine lv_if_eq (tgt := 40) hx hb dX10_trialScore_33 (by decide) (fun c3 => ?_) (fun c3 => ?_)
      · have h := iteP c3 h
        refine lv_iconst (v := 0) hx hb dX10_trialScore_40 li_0 ?_
        refine pf_X10_33 (v := .int 0) S hK hP hD hS 0 rfl (Nat.le_of_ble_eq_true rfl) rfl dX10_trialScore_41 (fun H locs hP hD hS => ?_)
        have hP : va_P D vwCl [(h0, .inr (10, [.ref h4, .ref h5, .ref h2, .ref h3, .ref h1, .int v0_phases, .ref kthis_now, .ref h6, .int v0_has, .int 0])), (h1, .inl (cI, 20, .inl r1)), (h2, .inl (cI, 2, .inl r2)), (h3, .inl (cI, 20, .inl r3)), (h4, .inl (cI, 15, .inl r4)), (h5, .inl (cI, 12, .inl r5)), (h6, .inl (cJ, 760, .inr (.inl r6)))] H := hP
        have hD : va_D A [(h0, .inr (10, [.ref h4, .ref h5, .ref h2, .ref h3, .ref h1, .int v0_phases, .ref kthis_now, .ref h6, .int v0_has, .int 0])), (h1, .inl (cI, 20, .inl r1)), (h2, .inl (cI, 2, .inl r2)), (h3, .inl (cI, 20, .inl r3)), (h4, .inl (cI, 15, .inl r4)), (h5, .inl (cI, 12, .inl r5)), (h6, .inl (cJ, 760, .inr (.inl r6)))] := hD
        refine lv_aload_n hx hb dX10_trialScore_44 rfl (lv_at hl 0 rfl) ?_
        refine gf_X10_33 (v := .int 0) S hK hP 0 rfl rfl dX10_trialScore_45 ?_
        refine lv_if_ne (tgt := 60) hx hb dX10_trialScore_48 (by decide) (fun c9 => absurd (by decide) c9) (fun _ => ?_)
        refine lv_aload_n hx hb dX10_trialScore_51 rfl (lv_at hl 0 rfl) ?_
        refine lv_iload_n hx hb dX10_trialScore_52 rfl (lv_at hl 1 rfl) ?_
        refine lv_iload_n hx hb dX10_trialScore_53 rfl (lv_at hl 2 rfl) ?_
        obtain ⟨z4, u5, e_z4, h⟩ := obnd2_eq h
        refine wrV (pc1 := 57) (rest := []) (st1 := [.long z4]) (wr := []) S (c_X10_scoreBy l D cI cJ cC h0 h1 h2 h3 h4 h5 h6 kthis_now v0_phases v0_has 0 r1 r2 r3 r4 r5 r6 H.size p0 p1 (z4, u5) e_z4) (cw_X10_196 S.2.2.2.2 ⟨Nat.le_of_ble_eq_true rfl, Nat.le_of_ble_eq_true rfl⟩) hK hP hD hS hA [0, 1, 2, 3, 4, 5, 6] [] rfl rfl rfl (by decide) (by decide) (by decide) rfl rfl rfl rfl hl.1 rfl (Nat.le_of_ble_eq_true rfl) ⟨Nat.zero_le _, Nat.zero_le _⟩ rfl rfl dX10_trialScore_54 (fun H locs hP hD hS => ?_)
        have hP : va_P D vwCl [(h0, .inr (10, [.ref h4, .ref h5, .ref h2, .ref h3, .ref h1, .int v0_phases, .ref kthis_now, .ref h6, .int v0_has, .int 0])), (h1, .inl (cI, 20, .inl r1)), (h2, .inl (cI, 2, .inl r2)), (h3, .inl (cI, 20, .inl r3)), (h4, .inl (cI, 15, .inl r4)), (h5, .inl (cI, 12, .inl r5)), (h6, .inl (cJ, 760, .inr (.inl u5)))] H := hP
        have hD : va_D A [(h0, .inr (10, [.ref h4, .ref h5, .ref h2, .ref h3, .ref h1, .int v0_phases, .ref kthis_now, .ref h6, .int v0_has, .int 0])), (h1, .inl (cI, 20, .inl r1)), (h2, .inl (cI, 2, .inl r2)), (h3, .inl (cI, 20, .inl r3)), (h4, .inl (cI, 15, .inl r4)), (h5, .inl (cI, 12, .inl r5)), (h6, .inl (cJ, 760, .inr (.inl u5)))] := hD
        refine lv_goto (tgt := 61) hx hb dX10_trialScore_57 (by decide) ?_
        have h := Option.some.inj h
        subst h
        exact wRl S hr hlk (hP.sub [0, 1, 2, 3, 4, 5, 6] rfl) (hD.sub [0, 1, 2, 3, 4, 5, 6] (by decide) rfl) hS dX10_trialScore_61
      · have h := iteN c3 h
        refine lv_iconst (v := 2) hx hb dX10_trialScore_36 li_2 ?_
        refine lv_goto (tgt := 41) hx hb dX10_trialScore_37 (by decide) ?_
        refine pf_X10_33 (v := .int 2) S hK hP hD hS 0 rfl (Nat.le_of_ble_eq_true rfl) rfl dX10_trialScore_41 (fun H locs hP hD hS => ?_)
        have hP : va_P D vwCl [(h0, .inr (10, [.ref h4, .ref h5, .ref h2, .ref h3, .ref h1, .int v0_phases, .ref kthis_now, .ref h6, .int v0_has, .int 2])), (h1, .inl (cI, 20, .inl r1)), (h2, .inl (cI, 2, .inl r2)), (h3, .inl (cI, 20, .inl r3)), (h4, .inl (cI, 15, .inl r4)), (h5, .inl (cI, 12, .inl r5)), (h6, .inl (cJ, 760, .inr (.inl r6)))] H := hP
        have hD : va_D A [(h0, .inr (10, [.ref h4, .ref h5, .ref h2, .ref h3, .ref h1, .int v0_phases, .ref kthis_now, .ref h6, .int v0_has, .int 2])), (h1, .inl (cI, 20, .inl r1)), (h2, .inl (cI, 2, .inl r2)), (h3, .inl (cI, 20, .inl r3)), (h4, .inl (cI, 15, .inl r4)), (h5, .inl (cI, 12, .inl r5)), (h6, .inl (cJ, 760, .inr (.inl r6)))] := hD
        refine lv_aload_n hx hb dX10_trialScore_44 rfl (lv_at hl 0 rfl) ?_
        refine gf_X10_33 (v := .int 2) S hK hP 0 rfl rfl dX10_trialScore_45 ?_
        refine lv_if_ne (tgt := 60) hx hb dX10_trialScore_48 (by decide) (fun _ => ?_) (fun c9 => absurd c9 (by decide))
        refine lv_lconst (v := 0) hx hb dX10_trialScore_60 rfl ?_
        have h := Option.some.inj h
        subst h
        exact wRl S hr hlk (hP.sub [0, 1, 2, 3, 4, 5, 6] rfl) (hD.sub [0, 1, 2, 3, 4, 5, 6] (by decide) rfl) hS dX10_trialScore_61
    · have h := iteP c2 h
      refine lv_iconst (v := 1) hx hb dX10_trialScore_25 li_1 ?_
      refine lv_goto (tgt := 41) hx hb dX10_trialScore_26 (by decide) ?_
      refine pf_X10_33 (v := .int 1) S hK hP hD hS 0 rfl (Nat.le_of_ble_eq_true rfl) rfl dX10_trialScore_41 (fun H locs hP hD hS => ?_)
      have hP : va_P D vwCl [(h0, .inr (10, [.ref h4, .ref h5, .ref h2, .ref h3, .ref h1, .int v0_phases, .ref kthis_now, .ref h6, .int v0_has, .int 1])), (h1, .inl (cI, 20, .inl r1)), (h2, .inl (cI, 2, .inl r2)), (h3, .inl (cI, 20, .inl r3)), (h4, .inl (cI, 15, .inl r4)), (h5, .inl (cI, 12, .inl r5)), (h6, .inl (cJ, 760, .inr (.inl r6)))] H := hP
      have hD : va_D A [(h0, .inr (10, [.ref h4, .ref h5, .ref h2, .ref h3, .ref h1, .int v0_phases, .ref kthis_now, .ref h6, .int v0_has, .int 1])), (h1, .inl (cI, 20, .inl r1)), (h2, .inl (cI, 2, .inl r2)), (h3, .inl (cI, 20, .inl r3)), (h4, .inl (cI, 15, .inl r4)), (h5, .inl (cI, 12, .inl r5)), (h6, .inl (cJ, 760, .inr (.inl r6)))] := hD
      refine lv_aload_n hx hb dX10_trialScore_44 rfl (lv_at hl 0 rfl) ?_
      refine gf_X10_33 (v := .int 1) S hK hP 0 rfl rfl dX10_trialScore_45 ?_
      refine lv_if_ne (tgt := 60) hx hb dX10_trialScore_48 (by decide) (fun _ => ?_) (fun c9 => absurd c9 (by decide))
      refine lv_lconst (v := 0) hx hb dX10_trialScore_60 rfl ?_
      have h := Option.some.inj h
      subst h
      exact wRl S hr hlk (hP.sub [0, 1, 2, 3, 4, 5, 6] rfl) (hD.sub [0, 1, 2, 3, 4, 5, 6] (by decide) rfl) hS dX10_trialScore_61
abbrev rm_X10_isTrial : Room := { frames := 1, cells := 0, slots := 0, locals := 25 }
theorem dX10_isTrial_0 : decode cX10_isTrial 0 = .ok (.aload_n 0, 1) := by decide +kernel
theorem dX10_isTrial_1 : decode cX10_isTrial 1 = .ok (.iload_n 1, 1) := by decide +kernel
theorem dX10_isTrial_2 : decode cX10_isTrial 2 = .ok (.i2l, 1) := by decide +kernel
theorem dX10_isTrial_3 : decode cX10_isTrial 3 = .ok (.lconst 0, 1) := by decide +kernel
theorem dX10_isTrial_4 : decode cX10_isTrial 4 = .ok (.ldc2_w 171, 3) := by decide +kernel
theorem dX10_isTrial_7 : decode cX10_isTrial 7 = .ok (.invokestatic 39, 3) := by decide +kernel
theorem dX10_isTrial_10 : decode cX10_isTrial 10 = .ok (.ifCond .ne 7, 3) := by decide +kernel
theorem dX10_isTrial_13 : decode cX10_isTrial 13 = .ok (.iconst 1, 1) := by decide +kernel
theorem dX10_isTrial_14 : decode cX10_isTrial 14 = .ok (.goto 15, 3) := by decide +kernel
theorem dX10_isTrial_17 : decode cX10_isTrial 17 = .ok (.aload_n 0, 1) := by decide +kernel
theorem dX10_isTrial_18 : decode cX10_isTrial 18 = .ok (.invokevirtual 164, 3) := by decide +kernel
theorem dX10_isTrial_21 : decode cX10_isTrial 21 = .ok (.ifCond .eq 7, 3) := by decide +kernel
theorem dX10_isTrial_24 : decode cX10_isTrial 24 = .ok (.iconst 2, 1) := by decide +kernel
theorem dX10_isTrial_25 : decode cX10_isTrial 25 = .ok (.goto 4, 3) := by decide +kernel
theorem dX10_isTrial_28 : decode cX10_isTrial 28 = .ok (.iconst 0, 1) := by decide +kernel
theorem dX10_isTrial_29 : decode cX10_isTrial 29 = .ok (.putfield 33, 3) := by decide +kernel
theorem dX10_isTrial_32 : decode cX10_isTrial 32 = .ok (.aload_n 0, 1) := by decide +kernel
theorem dX10_isTrial_33 : decode cX10_isTrial 33 = .ok (.getfield 33, 3) := by decide +kernel
theorem dX10_isTrial_36 : decode cX10_isTrial 36 = .ok (.ifCond .ne 7, 3) := by decide +kernel
theorem dX10_isTrial_39 : decode cX10_isTrial 39 = .ok (.iconst 1, 1) := by decide +kernel
theorem dX10_isTrial_40 : decode cX10_isTrial 40 = .ok (.goto 4, 3) := by decide +kernel
theorem dX10_isTrial_43 : decode cX10_isTrial 43 = .ok (.iconst 0, 1) := by decide +kernel
theorem dX10_isTrial_44 : decode cX10_isTrial 44 = .ok (.ireturn, 1) := by decide +kernel
def f_X10_isTrial (v0_phases : Int32) (r1 : Nat → Int32) (p0 : Int32) : Int32 × Int32 :=
  if (f_X10_in p0.toInt64 0 20000) = 0 then
    (0, 1)
  else
    if (f_X10_cannotStart v0_phases r1) = 0 then
      (1, 0)
    else
      (0, 2)
set_option maxHeartbeats 4000000 in
set_option maxRecDepth 100000 in
theorem c_X10_isTrial (l : Launch) (D : va_G) (cI cJ cC : ClassId) (h0 h1 kthis_p kthis_rates kthis_lengths kthis_flows kthis_now kthis_trial : Nat) (v0_phases v0_has v0_thrown : Int32) (r1 : Nat → Int32) (sz : Nat) (p0 : Int32) (T : Int32 × Int32) (h : f_X10_isTrial v0_phases r1 p0 = T) : Met l yX10_isTrial (Cond.code yX10_isTrial cX10_isTrial 2 (some .boolean) :: TB) rm_X10_isTrial (PreW D cI cJ cC [(h0, .inr (10, [.ref kthis_p, .ref kthis_rates, .ref h1, .ref kthis_lengths, .ref kthis_flows, .int v0_phases, .ref kthis_now, .ref kthis_trial, .int v0_has, .int v0_thrown])), (h1, .inl (cI, 2, .inl r1))] sz [.ref h0, .int p0]) (QW (some (.int T.1)) D [(h0, .inr (10, [.ref kthis_p, .ref kthis_rates, .ref h1, .ref kthis_lengths, .ref kthis_flows, .int v0_phases, .ref kthis_now, .ref kthis_trial, .int v0_has, .int T.2])), (h1, .inl (cI, 2, .inl r1))] (va_A [(h0, .inr (10, [.ref kthis_p, .ref kthis_rates, .ref h1, .ref kthis_lengths, .ref kthis_flows, .int v0_phases, .ref kthis_now, .ref kthis_trial, .int v0_has, .int v0_thrown])), (h1, .inl (cI, 2, .inl r1))] sz)) 0 0 (va_A [(h0, .inr (10, [.ref kthis_p, .ref kthis_rates, .ref h1, .ref kthis_lengths, .ref kthis_flows, .int v0_phases, .ref kthis_now, .ref kthis_trial, .int v0_has, .int v0_thrown])), (h1, .inl (cI, 2, .inl r1))] sz) := by
  refine metW (own := RX10) (by decide) rfl (Nat.le_of_ble_eq_true rfl) ?_
  intro p e s m below meth c S hr hlk hP hK A hAe hD hA hS ls hl
  clear hAe
  have hx := S.1
  have hb := S.2.1
  have hl : lv_has ls 2 [(0, .ref h0), (1, .int p0)] := hl
  refine lv_aload_n hx hb dX10_isTrial_0 rfl (lv_at hl 0 rfl) ?_
  refine lv_iload_n hx hb dX10_isTrial_1 rfl (lv_at hl 1 rfl) ?_
  refine lv_i2l hx hb dX10_isTrial_2 rfl ?_
  refine lv_lconst (v := 0) hx hb dX10_isTrial_3 rfl ?_
  refine lv_ldc2 (v := 20000) hx hb S.2.2.2.1 (S.2.2.2.2 _ tb1069) dX10_isTrial_4 ?_
  refine rdS (pc1 := 10) (rest := [.ref h0]) (st1 := [.int (f_X10_in p0.toInt64 0 20000), .ref h0]) S (c_X10_in l D cI cJ cC  p0.toInt64 0 20000 _ rfl) (cw_X10_39 S.2.2.2.2 ⟨Nat.le_of_ble_eq_true rfl, Nat.le_of_ble_eq_true rfl⟩) hK (hP.sub [] rfl) rfl hl.1 rfl (Nat.le_of_ble_eq_true rfl) ⟨Nat.zero_le _, Nat.zero_le _⟩ rfl rfl dX10_isTrial_7 ?_
  refine lv_if_ne (tgt := 17) hx hb dX10_isTrial_10 (by decide) (fun c1 => ?_) (fun c1 => ?_)
  · have h := iteN c1 h
    refine lv_aload_n hx hb dX10_isTrial_17 rfl (lv_at hl 0 rfl) ?_
    refine rdV (pc1 := 21) (rest := [.ref h0]) (st1 := [.int (f_X10_cannotStart v0_phases r1), .ref h0]) S (c_X10_cannotStart l D cI cJ cC h0 h1 kthis_p kthis_rates kthis_lengths kthis_flows kthis_now kthis_trial v0_phases v0_has v0_thrown r1  _ rfl) (cw_X10_164 S.2.2.2.2 ⟨Nat.le_of_ble_eq_true rfl, Nat.le_of_ble_eq_true rfl⟩) hK (hP.sub [0, 1] rfl) rfl rfl rfl rfl hl.1 rfl (Nat.le_of_ble_eq_true rfl) ⟨Nat.zero_le _, Nat.zero_le _⟩ rfl rfl dX10_isTrial_18 ?_
    refine lv_if_eq (tgt := 28) hx hb dX10_isTrial_21 (by decide) (fun c2 => ?_) (fun c2 => ?_)
    · have h := iteP c2 h
      refine lv_iconst (v := 0) hx hb dX10_isTrial_28 li_0 ?_
      refine pf_X10_33 (v := .int 0) S hK hP hD hS 0 rfl (Nat.le_of_ble_eq_true rfl) rfl dX10_isTrial_29 (fun H locs hP hD hS => ?_)
      have hP : va_P D vwCl [(h0, .inr (10, [.ref kthis_p, .ref kthis_rates, .ref h1, .ref kthis_lengths, .ref kthis_flows, .int v0_phases, .ref kthis_now, .ref kthis_trial, .int v0_has, .int 0])), (h1, .inl (cI, 2, .inl r1))] H := hP
      have hD : va_D A [(h0, .inr (10, [.ref kthis_p, .ref kthis_rates, .ref h1, .ref kthis_lengths, .ref kthis_flows, .int v0_phases, .ref kthis_now, .ref kthis_trial, .int v0_has, .int 0])), (h1, .inl (cI, 2, .inl r1))] := hD
      refine lv_aload_n hx hb dX10_isTrial_32 rfl (lv_at hl 0 rfl) ?_
      refine gf_X10_33 (v := .int 0) S hK hP 0 rfl rfl dX10_isTrial_33 ?_
      refine lv_if_ne (tgt := 43) hx hb dX10_isTrial_36 (by decide) (fun c9 => absurd (by decide) c9) (fun _ => ?_)
      refine lv_iconst (v := 1) hx hb dX10_isTrial_39 li_1 ?_
      refine lv_goto (tgt := 44) hx hb dX10_isTrial_40 (by decide) ?_
      subst h
      exact wRz S hr hlk (by decide) (hP.sub [0, 1] rfl) (hD.sub [0, 1] (by decide) rfl) hS dX10_isTrial_44
    · have h := iteN c2 h
      refine lv_iconst (v := 2) hx hb dX10_isTrial_24 li_2 ?_
      refine lv_goto (tgt := 29) hx hb dX10_isTrial_25 (by decide) ?_
      refine pf_X10_33 (v := .int 2) S hK hP hD hS 0 rfl (Nat.le_of_ble_eq_true rfl) rfl dX10_isTrial_29 (fun H locs hP hD hS => ?_)
      have hP : va_P D vwCl [(h0, .inr (10, [.ref kthis_p, .ref kthis_rates, .ref h1, .ref kthis_lengths, .ref kthis_flows, .int v0_phases, .ref kthis_now, .ref kthis_trial, .int v0_has, .int 2])), (h1, .inl (cI, 2, .inl r1))] H := hP
      have hD : va_D A [(h0, .inr (10, [.ref kthis_p, .ref kthis_rates, .ref h1, .ref kthis_lengths, .ref kthis_flows, .int v0_phases, .ref kthis_now, .ref kthis_trial, .int v0_has, .int 2])), (h1, .inl (cI, 2, .inl r1))] := hD
      refine lv_aload_n hx hb dX10_isTrial_32 rfl (lv_at hl 0 rfl) ?_
      refine gf_X10_33 (v := .int 2) S hK hP 0 rfl rfl dX10_isTrial_33 ?_
      refine lv_if_ne (tgt := 43) hx hb dX10_isTrial_36 (by decide) (fun _ => ?_) (fun c9 => absurd c9 (by decide))
      refine lv_iconst (v := 0) hx hb dX10_isTrial_43 li_0 ?_
      subst h
      exact wRz S hr hlk (by decide) (hP.sub [0, 1] rfl) (hD.sub [0, 1] (by decide) rfl) hS dX10_isTrial_44
  · have h := iteP c1 h
    refine lv_iconst (v := 1) hx hb dX10_isTrial_13 li_1 ?_
    refine lv_goto (tgt := 29) hx hb dX10_isTrial_14 (by decide) ?_
    refine pf_X10_33 (v := .int 1) S hK hP hD hS 0 rfl (Nat.le_of_ble_eq_true rfl) rfl dX10_isTrial_29 (fun H locs hP hD hS => ?_)
    have hP : va_P D vwCl [(h0, .inr (10, [.ref kthis_p, .ref kthis_rates, .ref h1, .ref kthis_lengths, .ref kthis_flows, .int v0_phases, .ref kthis_now, .ref kthis_trial, .int v0_has, .int 1])), (h1, .inl (cI, 2, .inl r1))] H := hP
    have hD : va_D A [(h0, .inr (10, [.ref kthis_p, .ref kthis_rates, .ref h1, .ref kthis_lengths, .ref kthis_flows, .int v0_phases, .ref kthis_now, .ref kthis_trial, .int v0_has, .int 1])), (h1, .inl (cI, 2, .inl r1))] := hD
    refine lv_aload_n hx hb dX10_isTrial_32 rfl (lv_at hl 0 rfl) ?_
    refine gf_X10_33 (v := .int 1) S hK hP 0 rfl rfl dX10_isTrial_33 ?_
    refine lv_if_ne (tgt := 43) hx hb dX10_isTrial_36 (by decide) (fun _ => ?_) (fun c9 => absurd c9 (by decide))
    refine lv_iconst (v := 0) hx hb dX10_isTrial_43 li_0 ?_
    subst h
    exact wRz S hr hlk (by decide) (hP.sub [0, 1] rfl) (hD.sub [0, 1] (by decide) rfl) hS dX10_isTrial_44
abbrev rm_X10_bestMode : Room := { frames := 6, cells := 0, slots := 0, locals := 157 }
theorem dX10_bestMode_0 : decode cX10_bestMode 0 = .ok (.aload_n 0, 1) := by decide +kernel
theorem dX10_bestMode_1 : decode cX10_bestMode 1 = .ok (.iload_n 1, 1) := by decide +kernel
theorem dX10_bestMode_2 : decode cX10_bestMode 2 = .ok (.invokevirtual 200, 3) := by decide +kernel
theorem dX10_bestMode_5 : decode cX10_bestMode 5 = .ok (.ifCond .ne 5, 3) := by decide +kernel
theorem dX10_bestMode_8 : decode cX10_bestMode 8 = .ok (.iconst 0, 1) := by decide +kernel
theorem dX10_bestMode_9 : decode cX10_bestMode 9 = .ok (.ireturn, 1) := by decide +kernel
theorem dX10_bestMode_10 : decode cX10_bestMode 10 = .ok (.aload_n 0, 1) := by decide +kernel
theorem dX10_bestMode_11 : decode cX10_bestMode 11 = .ok (.iconst 0, 1) := by decide +kernel
theorem dX10_bestMode_12 : decode cX10_bestMode 12 = .ok (.iload_n 1, 1) := by decide +kernel
theorem dX10_bestMode_13 : decode cX10_bestMode 13 = .ok (.invokevirtual 196, 3) := by decide +kernel
theorem dX10_bestMode_16 : decode cX10_bestMode 16 = .ok (.lstore_n 2, 1) := by decide +kernel
theorem dX10_bestMode_17 : decode cX10_bestMode 17 = .ok (.aload_n 0, 1) := by decide +kernel
theorem dX10_bestMode_18 : decode cX10_bestMode 18 = .ok (.iconst 1, 1) := by decide +kernel
theorem dX10_bestMode_19 : decode cX10_bestMode 19 = .ok (.iload_n 1, 1) := by decide +kernel
theorem dX10_bestMode_20 : decode cX10_bestMode 20 = .ok (.invokevirtual 196, 3) := by decide +kernel
theorem dX10_bestMode_23 : decode cX10_bestMode 23 = .ok (.lstore 4, 2) := by decide +kernel
theorem dX10_bestMode_25 : decode cX10_bestMode 25 = .ok (.aload_n 0, 1) := by decide +kernel
theorem dX10_bestMode_26 : decode cX10_bestMode 26 = .ok (.iconst 2, 1) := by decide +kernel
theorem dX10_bestMode_27 : decode cX10_bestMode 27 = .ok (.iload_n 1, 1) := by decide +kernel
theorem dX10_bestMode_28 : decode cX10_bestMode 28 = .ok (.invokevirtual 196, 3) := by decide +kernel
theorem dX10_bestMode_31 : decode cX10_bestMode 31 = .ok (.lstore 6, 2) := by decide +kernel
theorem dX10_bestMode_33 : decode cX10_bestMode 33 = .ok (.lload 6, 2) := by decide +kernel
theorem dX10_bestMode_35 : decode cX10_bestMode 35 = .ok (.lload_n 2, 1) := by decide +kernel
theorem dX10_bestMode_36 : decode cX10_bestMode 36 = .ok (.lcmp, 1) := by decide +kernel
theorem dX10_bestMode_37 : decode cX10_bestMode 37 = .ok (.ifCond .le 15, 3) := by decide +kernel
theorem dX10_bestMode_40 : decode cX10_bestMode 40 = .ok (.lload 6, 2) := by decide +kernel
theorem dX10_bestMode_42 : decode cX10_bestMode 42 = .ok (.lload 4, 2) := by decide +kernel
theorem dX10_bestMode_44 : decode cX10_bestMode 44 = .ok (.lcmp, 1) := by decide +kernel
theorem dX10_bestMode_45 : decode cX10_bestMode 45 = .ok (.ifCond .le 7, 3) := by decide +kernel
theorem dX10_bestMode_48 : decode cX10_bestMode 48 = .ok (.iconst 2, 1) := by decide +kernel
theorem dX10_bestMode_49 : decode cX10_bestMode 49 = .ok (.goto 15, 3) := by decide +kernel
theorem dX10_bestMode_52 : decode cX10_bestMode 52 = .ok (.lload 4, 2) := by decide +kernel
theorem dX10_bestMode_54 : decode cX10_bestMode 54 = .ok (.lload_n 2, 1) := by decide +kernel
theorem dX10_bestMode_55 : decode cX10_bestMode 55 = .ok (.lcmp, 1) := by decide +kernel
theorem dX10_bestMode_56 : decode cX10_bestMode 56 = .ok (.ifCond .le 7, 3) := by decide +kernel
theorem dX10_bestMode_59 : decode cX10_bestMode 59 = .ok (.iconst 1, 1) := by decide +kernel
theorem dX10_bestMode_60 : decode cX10_bestMode 60 = .ok (.goto 4, 3) := by decide +kernel
theorem dX10_bestMode_63 : decode cX10_bestMode 63 = .ok (.iconst 0, 1) := by decide +kernel
theorem dX10_bestMode_64 : decode cX10_bestMode 64 = .ok (.ireturn, 1) := by decide +kernel
theorem cw_X10_200 {R : Room} {s : State} {args : Array Value} (hts : ∀ w ∈ TB, w.before args s = true) (hR : rm_X10_isTrial.frames + 1 ≤ R.frames ∧ 8 + (2 + 11) + rm_X10_isTrial.locals ≤ R.locals) : CallW R s args RX10 RX10 200 yX10_isTrial cX10_isTrial 2 (some .boolean) (Cond.code yX10_isTrial cX10_isTrial 2 (some .boolean) :: TB) rm_X10_isTrial 0 0 1 := cwV 1 hts (gV tb1227 tb1228 tb45 tb57 tb1229) rfl rfl rfl ⟨rfl, by decide, by decide, by decide +kernel⟩ hR
def f_X10_bestMode (v0_phases : Int32) (r1 r2 r3 r4 r5 : Nat → Int32) (r6 : Nat → Int64) (p0 : Int32) : Option (Int32 × Int32 × (Nat → Int64)) :=
  bnd2 (f_X10_isTrial v0_phases r2 p0) fun (y1 : Int32) (y2 : Int32) =>
  if y1 = 0 then
    some (0, y2, r6)
  else
    obnd2 (f_X10_scoreBy v0_phases r1 r2 r3 r4 r5 r6 0 p0) fun (z4 : Int64) (u5 : Nat → Int64) =>
    obnd2 (f_X10_scoreBy v0_phases r1 r2 r3 r4 r5 u5 1 p0) fun (z6 : Int64) (u7 : Nat → Int64) =>
    obnd2 (f_X10_scoreBy v0_phases r1 r2 r3 r4 r5 u7 2 p0) fun (z8 : Int64) (u9 : Nat → Int64) =>
    if z8 ≤ z4 then
      if z6 ≤ z4 then
        some (0, y2, u9)
      else
        some (1, y2, u9)
    else
      if z8 ≤ z6 then
        if z6 ≤ z4 then
          some (0, y2, u9)
        else
          some (1, y2, u9)
      else
        some (2, y2, u9)
set_option maxHeartbeats 4000000 in
set_option maxRecDepth 100000 in
theorem c_X10_bestMode (l : Launch) (D : va_G) (cI cJ cC : ClassId) (h0 h1 h2 h3 h4 h5 h6 kthis_now : Nat) (v0_phases v0_has v0_thrown : Int32) (r1 r2 r3 r4 r5 : Nat → Int32) (r6 : Nat → Int64) (sz : Nat) (p0 : Int32) (T : Int32 × Int32 × (Nat → Int64)) (h : f_X10_bestMode v0_phases r1 r2 r3 r4 r5 r6 p0 = some T) : Met l yX10_bestMode (Cond.code yX10_bestMode cX10_bestMode 8 (some .int) :: TB) rm_X10_bestMode (PreW D cI cJ cC [(h0, .inr (10, [.ref h4, .ref h5, .ref h2, .ref h3, .ref h1, .int v0_phases, .ref kthis_now, .ref h6, .int v0_has, .int v0_thrown])), (h1, .inl (cI, 20, .inl r1)), (h2, .inl (cI, 2, .inl r2)), (h3, .inl (cI, 20, .inl r3)), (h4, .inl (cI, 15, .inl r4)), (h5, .inl (cI, 12, .inl r5)), (h6, .inl (cJ, 760, .inr (.inl r6)))] sz [.ref h0, .int p0]) (QW (some (.int T.1)) D [(h0, .inr (10, [.ref h4, .ref h5, .ref h2, .ref h3, .ref h1, .int v0_phases, .ref kthis_now, .ref h6, .int v0_has, .int T.2.1])), (h1, .inl (cI, 20, .inl r1)), (h2, .inl (cI, 2, .inl r2)), (h3, .inl (cI, 20, .inl r3)), (h4, .inl (cI, 15, .inl r4)), (h5, .inl (cI, 12, .inl r5)), (h6, .inl (cJ, 760, .inr (.inl T.2.2)))] (va_A [(h0, .inr (10, [.ref h4, .ref h5, .ref h2, .ref h3, .ref h1, .int v0_phases, .ref kthis_now, .ref h6, .int v0_has, .int v0_thrown])), (h1, .inl (cI, 20, .inl r1)), (h2, .inl (cI, 2, .inl r2)), (h3, .inl (cI, 20, .inl r3)), (h4, .inl (cI, 15, .inl r4)), (h5, .inl (cI, 12, .inl r5)), (h6, .inl (cJ, 760, .inr (.inl r6)))] sz)) 0 0 (va_A [(h0, .inr (10, [.ref h4, .ref h5, .ref h2, .ref h3, .ref h1, .int v0_phases, .ref kthis_now, .ref h6, .int v0_has, .int v0_thrown])), (h1, .inl (cI, 20, .inl r1)), (h2, .inl (cI, 2, .inl r2)), (h3, .inl (cI, 20, .inl r3)), (h4, .inl (cI, 15, .inl r4)), (h5, .inl (cI, 12, .inl r5)), (h6, .inl (cJ, 760, .inr (.inl r6)))] sz) := by
  refine metW (own := RX10) (by decide) rfl (Nat.le_of_ble_eq_true rfl) ?_
  intro p e s m below meth c S hr hlk hP hK A hAe hD hA hS ls hl
  clear hAe
  have hx := S.1
  have hb := S.2.1
  have hl : lv_has ls 8 [(0, .ref h0), (1, .int p0)] := hl
  refine lv_aload_n hx hb dX10_bestMode_0 rfl (lv_at hl 0 rfl) ?_
  refine lv_iload_n hx hb dX10_bestMode_1 rfl (lv_at hl 1 rfl) ?_
  obtain ⟨y1, y2, e_y1⟩ : ∃ a0 a1, f_X10_isTrial v0_phases r2 p0 = (a0, a1) := ⟨_, _, rfl⟩
  have h := bnd2_eq e_y1 h
  refine wrV (pc1 := 5) (rest := []) (st1 := [.int y1]) (wr := [(h1, .inl (cI, 20, .inl r1)), (h3, .inl (cI, 20, .inl r3)), (h4, .inl (cI, 15, .inl r4)), (h5, .inl (cI, 12, .inl r5)), (h6, .inl (cJ, 760, .inr (.inl r6)))]) S (c_X10_isTrial l D cI cJ cC h0 h2 h4 h5 h3 h1 kthis_now h6 v0_phases v0_has v0_thrown r2 s.heap.size p0 (y1, y2) e_y1) (cw_X10_200 S.2.2.2.2 ⟨Nat.le_of_ble_eq_true rfl, Nat.le_of_ble_eq_true rfl⟩) hK hP hD hS hA [0, 2] [1, 3, 4, 5, 6] rfl rfl rfl (by decide) (by decide) (by decide) rfl rfl rfl rfl hl.1 rfl (Nat.le_of_ble_eq_true rfl) ⟨Nat.zero_le _, Nat.zero_le _⟩ rfl rfl dX10_bestMode_2 (fun H locs hP hD hS => ?_)
  have hP : va_P D vwCl [(h1, .inl (cI, 20, .inl r1)), (h3, .inl (cI, 20, .inl r3)), (h4, .inl (cI, 15, .inl r4)), (h5, .inl (cI, 12, .inl r5)), (h6, .inl (cJ, 760, .inr (.inl r6))), (h0, .inr (10, [.ref h4, .ref h5, .ref h2, .ref h3, .ref h1, .int v0_phases, .ref kthis_now, .ref h6, .int v0_has, .int y2])), (h2, .inl (cI, 2, .inl r2))] H := hP
  have hD : va_D A [(h1, .inl (cI, 20, .inl r1)), (h3, .inl (cI, 20, .inl r3)), (h4, .inl (cI, 15, .inl r4)), (h5, .inl (cI, 12, .inl r5)), (h6, .inl (cJ, 760, .inr (.inl r6))), (h0, .inr (10, [.ref h4, .ref h5, .ref h2, .ref h3, .ref h1, .int v0_phases, .ref kthis_now, .ref h6, .int v0_has, .int y2])), (h2, .inl (cI, 2, .inl r2))] := hD
  refine lv_if_ne (tgt := 10) hx hb dX10_bestMode_5 (by decide) (fun c3 => ?_) (fun c3 => ?_)
  · have h := iteN c3 h
    refine lv_aload_n hx hb dX10_bestMode_10 rfl (lv_at hl 0 rfl) ?_
    refine lv_iconst (v := 0) hx hb dX10_bestMode_11 li_0 ?_
    refine lv_iload_n hx hb dX10_bestMode_12 rfl (lv_at hl 1 rfl) ?_
    obtain ⟨z4, u5, e_z4, h⟩ := obnd2_eq h
    refine wrV (pc1 := 16) (rest := []) (st1 := [.long z4]) (wr := []) S (c_X10_scoreBy l D cI cJ cC h0 h1 h2 h3 h4 h5 h6 kthis_now v0_phases v0_has y2 r1 r2 r3 r4 r5 r6 H.size 0 p0 (z4, u5) e_z4) (cw_X10_196 S.2.2.2.2 ⟨Nat.le_of_ble_eq_true rfl, Nat.le_of_ble_eq_true rfl⟩) hK hP hD hS hA [5, 0, 6, 1, 2, 3, 4] [] rfl rfl rfl (by decide) (by decide) (by decide) rfl rfl rfl rfl hl.1 rfl (Nat.le_of_ble_eq_true rfl) ⟨Nat.zero_le _, Nat.zero_le _⟩ rfl rfl dX10_bestMode_13 (fun H locs hP hD hS => ?_)
    have hP : va_P D vwCl [(h0, .inr (10, [.ref h4, .ref h5, .ref h2, .ref h3, .ref h1, .int v0_phases, .ref kthis_now, .ref h6, .int v0_has, .int y2])), (h1, .inl (cI, 20, .inl r1)), (h2, .inl (cI, 2, .inl r2)), (h3, .inl (cI, 20, .inl r3)), (h4, .inl (cI, 15, .inl r4)), (h5, .inl (cI, 12, .inl r5)), (h6, .inl (cJ, 760, .inr (.inl u5)))] H := hP
    have hD : va_D A [(h0, .inr (10, [.ref h4, .ref h5, .ref h2, .ref h3, .ref h1, .int v0_phases, .ref kthis_now, .ref h6, .int v0_has, .int y2])), (h1, .inl (cI, 20, .inl r1)), (h2, .inl (cI, 2, .inl r2)), (h3, .inl (cI, 20, .inl r3)), (h4, .inl (cI, 15, .inl r4)), (h5, .inl (cI, 12, .inl r5)), (h6, .inl (cJ, 760, .inr (.inl u5)))] := hD
    refine lv_lstore_n (lv' := [(2, .long z4), (0, .ref h0), (1, .int p0)]) hx hb dX10_bestMode_16 rfl hl (by decide) rfl (fun ls hl => ?_)
    refine lv_aload_n hx hb dX10_bestMode_17 rfl (lv_at hl 1 rfl) ?_
    refine lv_iconst (v := 1) hx hb dX10_bestMode_18 li_1 ?_
    refine lv_iload_n hx hb dX10_bestMode_19 rfl (lv_at hl 2 rfl) ?_
    obtain ⟨z6, u7, e_z6, h⟩ := obnd2_eq h
    refine wrV (pc1 := 23) (rest := []) (st1 := [.long z6]) (wr := []) S (c_X10_scoreBy l D cI cJ cC h0 h1 h2 h3 h4 h5 h6 kthis_now v0_phases v0_has y2 r1 r2 r3 r4 r5 u5 H.size 1 p0 (z6, u7) e_z6) (cw_X10_196 S.2.2.2.2 ⟨Nat.le_of_ble_eq_true rfl, Nat.le_of_ble_eq_true rfl⟩) hK hP hD hS hA [0, 1, 2, 3, 4, 5, 6] [] rfl rfl rfl (by decide) (by decide) (by decide) rfl rfl rfl rfl hl.1 rfl (Nat.le_of_ble_eq_true rfl) ⟨Nat.zero_le _, Nat.zero_le _⟩ rfl rfl dX10_bestMode_20 (fun H locs hP hD hS => ?_)
    have hP : va_P D vwCl [(h0, .inr (10, [.ref h4, .ref h5, .ref h2, .ref h3, .ref h1, .int v0_phases, .ref kthis_now, .ref h6, .int v0_has, .int y2])), (h1, .inl (cI, 20, .inl r1)), (h2, .inl (cI, 2, .inl r2)), (h3, .inl (cI, 20, .inl r3)), (h4, .inl (cI, 15, .inl r4)), (h5, .inl (cI, 12, .inl r5)), (h6, .inl (cJ, 760, .inr (.inl u7)))] H := hP
    have hD : va_D A [(h0, .inr (10, [.ref h4, .ref h5, .ref h2, .ref h3, .ref h1, .int v0_phases, .ref kthis_now, .ref h6, .int v0_has, .int y2])), (h1, .inl (cI, 20, .inl r1)), (h2, .inl (cI, 2, .inl r2)), (h3, .inl (cI, 20, .inl r3)), (h4, .inl (cI, 15, .inl r4)), (h5, .inl (cI, 12, .inl r5)), (h6, .inl (cJ, 760, .inr (.inl u7)))] := hD
    refine lv_lstore (lv' := [(4, .long z6), (2, .long z4), (0, .ref h0), (1, .int p0)]) hx hb dX10_bestMode_23 hl (by decide) rfl (fun ls hl => ?_)
    refine lv_aload_n hx hb dX10_bestMode_25 rfl (lv_at hl 2 rfl) ?_
    refine lv_iconst (v := 2) hx hb dX10_bestMode_26 li_2 ?_
    refine lv_iload_n hx hb dX10_bestMode_27 rfl (lv_at hl 3 rfl) ?_
    obtain ⟨z8, u9, e_z8, h⟩ := obnd2_eq h
    refine wrV (pc1 := 31) (rest := []) (st1 := [.long z8]) (wr := []) S (c_X10_scoreBy l D cI cJ cC h0 h1 h2 h3 h4 h5 h6 kthis_now v0_phases v0_has y2 r1 r2 r3 r4 r5 u7 H.size 2 p0 (z8, u9) e_z8) (cw_X10_196 S.2.2.2.2 ⟨Nat.le_of_ble_eq_true rfl, Nat.le_of_ble_eq_true rfl⟩) hK hP hD hS hA [0, 1, 2, 3, 4, 5, 6] [] rfl rfl rfl (by decide) (by decide) (by decide) rfl rfl rfl rfl hl.1 rfl (Nat.le_of_ble_eq_true rfl) ⟨Nat.zero_le _, Nat.zero_le _⟩ rfl rfl dX10_bestMode_28 (fun H locs hP hD hS => ?_)
    have hP : va_P D vwCl [(h0, .inr (10, [.ref h4, .ref h5, .ref h2, .ref h3, .ref h1, .int v0_phases, .ref kthis_now, .ref h6, .int v0_has, .int y2])), (h1, .inl (cI, 20, .inl r1)), (h2, .inl (cI, 2, .inl r2)), (h3, .inl (cI, 20, .inl r3)), (h4, .inl (cI, 15, .inl r4)), (h5, .inl (cI, 12, .inl r5)), (h6, .inl (cJ, 760, .inr (.inl u9)))] H := hP
    have hD : va_D A [(h0, .inr (10, [.ref h4, .ref h5, .ref h2, .ref h3, .ref h1, .int v0_phases, .ref kthis_now, .ref h6, .int v0_has, .int y2])), (h1, .inl (cI, 20, .inl r1)), (h2, .inl (cI, 2, .inl r2)), (h3, .inl (cI, 20, .inl r3)), (h4, .inl (cI, 15, .inl r4)), (h5, .inl (cI, 12, .inl r5)), (h6, .inl (cJ, 760, .inr (.inl u9)))] := hD
    refine lv_lstore (lv' := [(6, .long z8), (4, .long z6), (2, .long z4), (0, .ref h0), (1, .int p0)]) hx hb dX10_bestMode_31 hl (by decide) rfl (fun ls hl => ?_)
    refine lv_lload hx hb dX10_bestMode_33 (lv_at hl 0 rfl) ?_
    refine lv_lload_n hx hb dX10_bestMode_35 rfl (lv_at hl 2 rfl) ?_
    refine lc_le (tgt := 52) hx hb dX10_bestMode_36 dX10_bestMode_37 (by decide) (fun c10 => ?_) (fun c10 => ?_)
    · have h := iteP c10 h
      refine lv_lload hx hb dX10_bestMode_52 (lv_at hl 1 rfl) ?_
      refine lv_lload_n hx hb dX10_bestMode_54 rfl (lv_at hl 2 rfl) ?_
      refine lc_le (tgt := 63) hx hb dX10_bestMode_55 dX10_bestMode_56 (by decide) (fun c11 => ?_) (fun c11 => ?_)
      · have h := iteP c11 h
        refine lv_iconst (v := 0) hx hb dX10_bestMode_63 li_0 ?_
        have h := Option.some.inj h
        subst h
        exact wRi S hr hlk (hP.sub [0, 1, 2, 3, 4, 5, 6] rfl) (hD.sub [0, 1, 2, 3, 4, 5, 6] (by decide) rfl) hS dX10_bestMode_64
      · have h := iteN c11 h
        refine lv_iconst (v := 1) hx hb dX10_bestMode_59 li_1 ?_
        refine lv_goto (tgt := 64) hx hb dX10_bestMode_60 (by decide) ?_
        have h := Option.some.inj h
        subst h
        exact wRi S hr hlk (hP.sub [0, 1, 2, 3, 4, 5, 6] rfl) (hD.sub [0, 1, 2, 3, 4, 5, 6] (by decide) rfl) hS dX10_bestMode_64
    · have h := iteN c10 h
      refine lv_lload hx hb dX10_bestMode_40 (lv_at hl 0 rfl) ?_
      refine lv_lload hx hb dX10_bestMode_42 (lv_at hl 1 rfl) ?_
      refine lc_le (tgt := 52) hx hb dX10_bestMode_44 dX10_bestMode_45 (by decide) (fun c12 => ?_) (fun c12 => ?_)
      · have h := iteP c12 h
        refine lv_lload hx hb dX10_bestMode_52 (lv_at hl 1 rfl) ?_
        refine lv_lload_n hx hb dX10_bestMode_54 rfl (lv_at hl 2 rfl) ?_
        refine lc_le (tgt := 63) hx hb dX10_bestMode_55 dX10_bestMode_56 (by decide) (fun c13 => ?_) (fun c13 => ?_)
        · have h := iteP c13 h
          refine lv_iconst (v := 0) hx hb dX10_bestMode_63 li_0 ?_
          have h := Option.some.inj h
          subst h
          exact wRi S hr hlk (hP.sub [0, 1, 2, 3, 4, 5, 6] rfl) (hD.sub [0, 1, 2, 3, 4, 5, 6] (by decide) rfl) hS dX10_bestMode_64
        · have h := iteN c13 h
          refine lv_iconst (v := 1) hx hb dX10_bestMode_59 li_1 ?_
          refine lv_goto (tgt := 64) hx hb dX10_bestMode_60 (by decide) ?_
          have h := Option.some.inj h
          subst h
          exact wRi S hr hlk (hP.sub [0, 1, 2, 3, 4, 5, 6] rfl) (hD.sub [0, 1, 2, 3, 4, 5, 6] (by decide) rfl) hS dX10_bestMode_64
      · have h := iteN c12 h
        refine lv_iconst (v := 2) hx hb dX10_bestMode_48 li_2 ?_
        refine lv_goto (tgt := 64) hx hb dX10_bestMode_49 (by decide) ?_
        have h := Option.some.inj h
        subst h
        exact wRi S hr hlk (hP.sub [0, 1, 2, 3, 4, 5, 6] rfl) (hD.sub [0, 1, 2, 3, 4, 5, 6] (by decide) rfl) hS dX10_bestMode_64
  · have h := iteP c3 h
    refine lv_iconst (v := 0) hx hb dX10_bestMode_8 li_0 ?_
    have h := Option.some.inj h
    subst h
    exact wRi S hr hlk (hP.sub [5, 0, 6, 1, 2, 3, 4] rfl) (hD.sub [5, 0, 6, 1, 2, 3, 4] (by decide) rfl) hS dX10_bestMode_9
