abbrev rm_X10_size : Room := { frames := 2, cells := 0, slots := 0, locals := 52 }
theorem dX10_size_0 : decode cX10_size 0 = .ok (.aload_n 0, 1) := by decide +kernel
theorem dX10_size_1 : decode cX10_size 1 = .ok (.iload_n 1, 1) := by decide +kernel
theorem dX10_size_2 : decode cX10_size 2 = .ok (.i2l, 1) := by decide +kernel
theorem dX10_size_3 : decode cX10_size 3 = .ok (.lconst 0, 1) := by decide +kernel
theorem dX10_size_4 : decode cX10_size 4 = .ok (.lconst 1, 1) := by decide +kernel
theorem dX10_size_5 : decode cX10_size 5 = .ok (.invokestatic 39, 3) := by decide +kernel
theorem dX10_size_8 : decode cX10_size 8 = .ok (.ifCond .eq 43, 3) := by decide +kernel
theorem dX10_size_11 : decode cX10_size 11 = .ok (.iload_n 2, 1) := by decide +kernel
theorem dX10_size_12 : decode cX10_size 12 = .ok (.i2l, 1) := by decide +kernel
theorem dX10_size_13 : decode cX10_size 13 = .ok (.lconst 0, 1) := by decide +kernel
theorem dX10_size_14 : decode cX10_size 14 = .ok (.aload_n 0, 1) := by decide +kernel
theorem dX10_size_15 : decode cX10_size 15 = .ok (.getfield 16, 3) := by decide +kernel
theorem dX10_size_18 : decode cX10_size 18 = .ok (.iload_n 1, 1) := by decide +kernel
theorem dX10_size_19 : decode cX10_size 19 = .ok (.iaload, 1) := by decide +kernel
theorem dX10_size_20 : decode cX10_size 20 = .ok (.iconst 1, 1) := by decide +kernel
theorem dX10_size_21 : decode cX10_size 21 = .ok (.isub, 1) := by decide +kernel
theorem dX10_size_22 : decode cX10_size 22 = .ok (.i2l, 1) := by decide +kernel
theorem dX10_size_23 : decode cX10_size 23 = .ok (.invokestatic 39, 3) := by decide +kernel
theorem dX10_size_26 : decode cX10_size 26 = .ok (.ifCond .eq 25, 3) := by decide +kernel
theorem dX10_size_29 : decode cX10_size 29 = .ok (.iload_n 3, 1) := by decide +kernel
theorem dX10_size_30 : decode cX10_size 30 = .ok (.i2l, 1) := by decide +kernel
theorem dX10_size_31 : decode cX10_size 31 = .ok (.lconst 0, 1) := by decide +kernel
theorem dX10_size_32 : decode cX10_size 32 = .ok (.aload_n 0, 1) := by decide +kernel
theorem dX10_size_33 : decode cX10_size 33 = .ok (.getfield 7, 3) := by decide +kernel
theorem dX10_size_36 : decode cX10_size 36 = .ok (.iconst 1, 1) := by decide +kernel
theorem dX10_size_37 : decode cX10_size 37 = .ok (.iaload, 1) := by decide +kernel
theorem dX10_size_38 : decode cX10_size 38 = .ok (.iconst 1, 1) := by decide +kernel
theorem dX10_size_39 : decode cX10_size 39 = .ok (.isub, 1) := by decide +kernel
theorem dX10_size_40 : decode cX10_size 40 = .ok (.i2l, 1) := by decide +kernel
theorem dX10_size_41 : decode cX10_size 41 = .ok (.invokestatic 39, 3) := by decide +kernel
theorem dX10_size_44 : decode cX10_size 44 = .ok (.ifCond .eq 7, 3) := by decide +kernel
theorem dX10_size_47 : decode cX10_size 47 = .ok (.iconst 0, 1) := by decide +kernel
theorem dX10_size_48 : decode cX10_size 48 = .ok (.goto 4, 3) := by decide +kernel
theorem dX10_size_51 : decode cX10_size 51 = .ok (.iconst 1, 1) := by decide +kernel
theorem dX10_size_52 : decode cX10_size 52 = .ok (.putfield 33, 3) := by decide +kernel
theorem dX10_size_55 : decode cX10_size 55 = .ok (.aload_n 0, 1) := by decide +kernel
theorem dX10_size_56 : decode cX10_size 56 = .ok (.getfield 33, 3) := by decide +kernel
theorem dX10_size_59 : decode cX10_size 59 = .ok (.ifCond .ne 15, 3) := by decide +kernel
theorem dX10_size_62 : decode cX10_size 62 = .ok (.aload_n 0, 1) := by decide +kernel
theorem dX10_size_63 : decode cX10_size 63 = .ok (.iload_n 1, 1) := by decide +kernel
theorem dX10_size_64 : decode cX10_size 64 = .ok (.iload_n 2, 1) := by decide +kernel
theorem dX10_size_65 : decode cX10_size 65 = .ok (.i2l, 1) := by decide +kernel
theorem dX10_size_66 : decode cX10_size 66 = .ok (.iload_n 3, 1) := by decide +kernel
theorem dX10_size_67 : decode cX10_size 67 = .ok (.i2l, 1) := by decide +kernel
theorem dX10_size_68 : decode cX10_size 68 = .ok (.invokevirtual 84, 3) := by decide +kernel
theorem dX10_size_71 : decode cX10_size 71 = .ok (.goto 4, 3) := by decide +kernel
theorem dX10_size_74 : decode cX10_size 74 = .ok (.lconst 0, 1) := by decide +kernel
theorem dX10_size_75 : decode cX10_size 75 = .ok (.lreturn, 1) := by decide +kernel
theorem cw_X10_84 {R : Room} {s : State} {args : Array Value} (hts : ∀ w ∈ TB, w.before args s = true) (hR : rm_X10_sizeOf.frames + 1 ≤ R.frames ∧ 8 + (10 + 11) + rm_X10_sizeOf.locals ≤ R.locals) : CallW R s args RX10 RX10 84 yX10_sizeOf cX10_sizeOf 10 (some .long) (Cond.code yX10_sizeOf cX10_sizeOf 10 (some .long) :: TB) rm_X10_sizeOf 0 0 3 := cwV 3 hts (gV tb1041 tb1042 tb23 tb57 tb1043) rfl rfl rfl ⟨rfl, by decide, by decide, by decide +kernel⟩ hR
def f_X10_size (r1 r2 r3 : Nat → Int32) (p0 p1 p2 : Int32) : Option (Int64 × Int32) :=
  if (f_X10_in p0.toInt64 0 1) = 0 then
    some (0, 1)
  else
    grd (vin p0 2) <|
    if (f_X10_in p1.toInt64 0 (((r1 p0.toNatClampNeg) - 1).toInt64)) = 0 then
      some (0, 1)
    else
      if (f_X10_in p2.toInt64 0 (((r2 1) - 1).toInt64)) = 0 then
        some (0, 1)
      else
        obnd (f_X10_sizeOf r2 r3 p0 p1.toInt64 p2.toInt64) fun (z5 : Int64) =>
        some (z5, 0)
set_option maxHeartbeats 4000000 in
set_option maxRecDepth 100000 in
theorem c_X10_size (l : Launch) (D : va_G) (cI cJ cC : ClassId) (h0 h1 h2 h3 kthis_lengths kthis_flows kthis_now kthis_trial : Nat) (v0_phases v0_has v0_thrown : Int32) (r1 r2 r3 : Nat → Int32) (sz : Nat) (p0 p1 p2 : Int32) (T : Int64 × Int32) (h : f_X10_size r1 r2 r3 p0 p1 p2 = some T) : Met l yX10_size (Cond.code yX10_size cX10_size 4 (some .long) :: TB) rm_X10_size (PreW D cI cJ cC [(h0, .inr (10, [.ref h2, .ref h3, .ref h1, .ref kthis_lengths, .ref kthis_flows, .int v0_phases, .ref kthis_now, .ref kthis_trial, .int v0_has, .int v0_thrown])), (h1, .inl (cI, 2, .inl r1)), (h2, .inl (cI, 15, .inl r2)), (h3, .inl (cI, 12, .inl r3))] sz [.ref h0, .int p0, .int p1, .int p2]) (QW (some (.long T.1)) D [(h0, .inr (10, [.ref h2, .ref h3, .ref h1, .ref kthis_lengths, .ref kthis_flows, .int v0_phases, .ref kthis_now, .ref kthis_trial, .int v0_has, .int T.2])), (h1, .inl (cI, 2, .inl r1)), (h2, .inl (cI, 15, .inl r2)), (h3, .inl (cI, 12, .inl r3))] (va_A [(h0, .inr (10, [.ref h2, .ref h3, .ref h1, .ref kthis_lengths, .ref kthis_flows, .int v0_phases, .ref kthis_now, .ref kthis_trial, .int v0_has, .int v0_thrown])), (h1, .inl (cI, 2, .inl r1)), (h2, .inl (cI, 15, .inl r2)), (h3, .inl (cI, 12, .inl r3))] sz)) 0 0 (va_A [(h0, .inr (10, [.ref h2, .ref h3, .ref h1, .ref kthis_lengths, .ref kthis_flows, .int v0_phases, .ref kthis_now, .ref kthis_trial, .int v0_has, .int v0_thrown])), (h1, .inl (cI, 2, .inl r1)), (h2, .inl (cI, 15, .inl r2)), (h3, .inl (cI, 12, .inl r3))] sz) := by
  refine metW (own := RX10) (by decide) rfl (Nat.le_of_ble_eq_true rfl) ?_
  intro p e s m below meth c S hr hlk hP hK A hAe hD hA hS ls hl
  clear hAe
  have hx := S.1
  have hb := S.2.1
  have hl : lv_has ls 4 [(0, .ref h0), (1, .int p0), (2, .int p1), (3, .int p2)] := hl
  refine lv_aload_n hx hb dX10_size_0 rfl (lv_at hl 0 rfl) ?_
  refine lv_iload_n hx hb dX10_size_1 rfl (lv_at hl 1 rfl) ?_
  refine lv_i2l hx hb dX10_size_2 rfl ?_
  refine lv_lconst (v := 0) hx hb dX10_size_3 rfl ?_
  refine lv_lconst (v := 1) hx hb dX10_size_4 rfl ?_
  refine rdS (pc1 := 8) (rest := [.ref h0]) (st1 := [.int (f_X10_in p0.toInt64 0 1), .ref h0]) S (c_X10_in l D cI cJ cC  p0.toInt64 0 1 _ rfl) (cw_X10_39 S.2.2.2.2 ⟨Nat.le_of_ble_eq_true rfl, Nat.le_of_ble_eq_true rfl⟩) hK (hP.sub [] rfl) rfl hl.1 rfl (Nat.le_of_ble_eq_true rfl) ⟨Nat.zero_le _, Nat.zero_le _⟩ rfl rfl dX10_size_5 ?_
  refine lv_if_eq (tgt := 51) hx hb dX10_size_8 (by decide) (fun c1 => ?_) (fun c1 => ?_)
  · have h := iteP c1 h
    refine lv_iconst (v := 1) hx hb dX10_size_51 li_1 ?_
    refine pf_X10_33 (v := .int 1) S hK hP hD hS 0 rfl (Nat.le_of_ble_eq_true rfl) rfl dX10_size_52 (fun H locs hP hD hS => ?_)
    have hP : va_P D vwCl [(h0, .inr (10, [.ref h2, .ref h3, .ref h1, .ref kthis_lengths, .ref kthis_flows, .int v0_phases, .ref kthis_now, .ref kthis_trial, .int v0_has, .int 1])), (h1, .inl (cI, 2, .inl r1)), (h2, .inl (cI, 15, .inl r2)), (h3, .inl (cI, 12, .inl r3))] H := hP
    have hD : va_D A [(h0, .inr (10, [.ref h2, .ref h3, .ref h1, .ref kthis_lengths, .ref kthis_flows, .int v0_phases, .ref kthis_now, .ref kthis_trial, .int v0_has, .int 1])), (h1, .inl (cI, 2, .inl r1)), (h2, .inl (cI, 15, .inl r2)), (h3, .inl (cI, 12, .inl r3))] := hD
    refine lv_aload_n hx hb dX10_size_55 rfl (lv_at hl 0 rfl) ?_
    refine gf_X10_33 (v := .int 1) S hK hP 0 rfl rfl dX10_size_56 ?_
    refine lv_if_ne (tgt := 74) hx hb dX10_size_59 (by decide) (fun _ => ?_) (fun c9 => absurd c9 (by decide))
    refine lv_lconst (v := 0) hx hb dX10_size_74 rfl ?_
    have h := Option.some.inj h
    subst h
    exact wRl S hr hlk (hP.sub [0, 1, 2, 3] rfl) (hD.sub [0, 1, 2, 3] (by decide) rfl) hS dX10_size_75
  · have h := iteN c1 h
    refine lv_iload_n hx hb dX10_size_11 rfl (lv_at hl 2 rfl) ?_
    refine lv_i2l hx hb dX10_size_12 rfl ?_
    refine lv_lconst (v := 0) hx hb dX10_size_13 rfl ?_
    refine lv_aload_n hx hb dX10_size_14 rfl (lv_at hl 0 rfl) ?_
    refine gf_X10_16 (v := .ref h1) S hK hP 0 rfl rfl dX10_size_15 ?_
    refine lv_iload_n hx hb dX10_size_18 rfl (lv_at hl 1 rfl) ?_
    obtain ⟨g2, h⟩ := grd_eq h
    refine aldI (k := p0.toNatClampNeg) (q0 := 1) S hK hP rfl (vin_in g2) rfl dX10_size_19 ?_
    refine lv_iconst (v := 1) hx hb dX10_size_20 li_1 ?_
    refine lv_isub hx hb dX10_size_21 ?_
    refine lv_i2l hx hb dX10_size_22 rfl ?_
    refine rdS (pc1 := 26) (rest := [.ref h0]) (st1 := [.int (f_X10_in p1.toInt64 0 (((r1 p0.toNatClampNeg) - 1).toInt64)), .ref h0]) S (c_X10_in l D cI cJ cC  p1.toInt64 0 (((r1 p0.toNatClampNeg) - 1).toInt64) _ rfl) (cw_X10_39 S.2.2.2.2 ⟨Nat.le_of_ble_eq_true rfl, Nat.le_of_ble_eq_true rfl⟩) hK (hP.sub [] rfl) rfl hl.1 rfl (Nat.le_of_ble_eq_true rfl) ⟨Nat.zero_le _, Nat.zero_le _⟩ rfl rfl dX10_size_23 ?_
    refine lv_if_eq (tgt := 51) hx hb dX10_size_26 (by decide) (fun c3 => ?_) (fun c3 => ?_)
    · have h := iteP c3 h
      refine lv_iconst (v := 1) hx hb dX10_size_51 li_1 ?_
      refine pf_X10_33 (v := .int 1) S hK hP hD hS 0 rfl (Nat.le_of_ble_eq_true rfl) rfl dX10_size_52 (fun H locs hP hD hS => ?_)
      have hP : va_P D vwCl [(h0, .inr (10, [.ref h2, .ref h3, .ref h1, .ref kthis_lengths, .ref kthis_flows, .int v0_phases, .ref kthis_now, .ref kthis_trial, .int v0_has, .int 1])), (h1, .inl (cI, 2, .inl r1)), (h2, .inl (cI, 15, .inl r2)), (h3, .inl (cI, 12, .inl r3))] H := hP
      have hD : va_D A [(h0, .inr (10, [.ref h2, .ref h3, .ref h1, .ref kthis_lengths, .ref kthis_flows, .int v0_phases, .ref kthis_now, .ref kthis_trial, .int v0_has, .int 1])), (h1, .inl (cI, 2, .inl r1)), (h2, .inl (cI, 15, .inl r2)), (h3, .inl (cI, 12, .inl r3))] := hD
      refine lv_aload_n hx hb dX10_size_55 rfl (lv_at hl 0 rfl) ?_
      refine gf_X10_33 (v := .int 1) S hK hP 0 rfl rfl dX10_size_56 ?_
      refine lv_if_ne (tgt := 74) hx hb dX10_size_59 (by decide) (fun _ => ?_) (fun c9 => absurd c9 (by decide))
      refine lv_lconst (v := 0) hx hb dX10_size_74 rfl ?_
      have h := Option.some.inj h
      subst h
      exact wRl S hr hlk (hP.sub [0, 1, 2, 3] rfl) (hD.sub [0, 1, 2, 3] (by decide) rfl) hS dX10_size_75
    · have h := iteN c3 h
      refine lv_iload_n hx hb dX10_size_29 rfl (lv_at hl 3 rfl) ?_
      refine lv_i2l hx hb dX10_size_30 rfl ?_
      refine lv_lconst (v := 0) hx hb dX10_size_31 rfl ?_
      refine lv_aload_n hx hb dX10_size_32 rfl (lv_at hl 0 rfl) ?_
      refine gf_X10_7 (v := .ref h2) S hK hP 0 rfl rfl dX10_size_33 ?_
      refine lv_iconst (v := 1) hx hb dX10_size_36 li_1 ?_
      refine aldI (k := 1) (q0 := 2) S hK hP rfl vl_1_15 tn_1 dX10_size_37 ?_
      refine lv_iconst (v := 1) hx hb dX10_size_38 li_1 ?_
      refine lv_isub hx hb dX10_size_39 ?_
      refine lv_i2l hx hb dX10_size_40 rfl ?_
      refine rdS (pc1 := 44) (rest := [.ref h0]) (st1 := [.int (f_X10_in p2.toInt64 0 (((r2 1) - 1).toInt64)), .ref h0]) S (c_X10_in l D cI cJ cC  p2.toInt64 0 (((r2 1) - 1).toInt64) _ rfl) (cw_X10_39 S.2.2.2.2 ⟨Nat.le_of_ble_eq_true rfl, Nat.le_of_ble_eq_true rfl⟩) hK (hP.sub [] rfl) rfl hl.1 rfl (Nat.le_of_ble_eq_true rfl) ⟨Nat.zero_le _, Nat.zero_le _⟩ rfl rfl dX10_size_41 ?_
      refine lv_if_eq (tgt := 51) hx hb dX10_size_44 (by decide) (fun c4 => ?_) (fun c4 => ?_)
      · have h := iteP c4 h
        refine lv_iconst (v := 1) hx hb dX10_size_51 li_1 ?_
        refine pf_X10_33 (v := .int 1) S hK hP hD hS 0 rfl (Nat.le_of_ble_eq_true rfl) rfl dX10_size_52 (fun H locs hP hD hS => ?_)
        have hP : va_P D vwCl [(h0, .inr (10, [.ref h2, .ref h3, .ref h1, .ref kthis_lengths, .ref kthis_flows, .int v0_phases, .ref kthis_now, .ref kthis_trial, .int v0_has, .int 1])), (h1, .inl (cI, 2, .inl r1)), (h2, .inl (cI, 15, .inl r2)), (h3, .inl (cI, 12, .inl r3))] H := hP
        have hD : va_D A [(h0, .inr (10, [.ref h2, .ref h3, .ref h1, .ref kthis_lengths, .ref kthis_flows, .int v0_phases, .ref kthis_now, .ref kthis_trial, .int v0_has, .int 1])), (h1, .inl (cI, 2, .inl r1)), (h2, .inl (cI, 15, .inl r2)), (h3, .inl (cI, 12, .inl r3))] := hD
        refine lv_aload_n hx hb dX10_size_55 rfl (lv_at hl 0 rfl) ?_
        refine gf_X10_33 (v := .int 1) S hK hP 0 rfl rfl dX10_size_56 ?_
        refine lv_if_ne (tgt := 74) hx hb dX10_size_59 (by decide) (fun _ => ?_) (fun c9 => absurd c9 (by decide))
        refine lv_lconst (v := 0) hx hb dX10_size_74 rfl ?_
        have h := Option.some.inj h
        subst h
        exact wRl S hr hlk (hP.sub [0, 1, 2, 3] rfl) (hD.sub [0, 1, 2, 3] (by decide) rfl) hS dX10_size_75
      · have h := iteN c4 h
        refine lv_iconst (v := 0) hx hb dX10_size_47 li_0 ?_
        refine lv_goto (tgt := 52) hx hb dX10_size_48 (by decide) ?_
        refine pf_X10_33 (v := .int 0) S hK hP hD hS 0 rfl (Nat.le_of_ble_eq_true rfl) rfl dX10_size_52 (fun H locs hP hD hS => ?_)
        have hP : va_P D vwCl [(h0, .inr (10, [.ref h2, .ref h3, .ref h1, .ref kthis_lengths, .ref kthis_flows, .int v0_phases, .ref kthis_now, .ref kthis_trial, .int v0_has, .int 0])), (h1, .inl (cI, 2, .inl r1)), (h2, .inl (cI, 15, .inl r2)), (h3, .inl (cI, 12, .inl r3))] H := hP
        have hD : va_D A [(h0, .inr (10, [.ref h2, .ref h3, .ref h1, .ref kthis_lengths, .ref kthis_flows, .int v0_phases, .ref kthis_now, .ref kthis_trial, .int v0_has, .int 0])), (h1, .inl (cI, 2, .inl r1)), (h2, .inl (cI, 15, .inl r2)), (h3, .inl (cI, 12, .inl r3))] := hD
        refine lv_aload_n hx hb dX10_size_55 rfl (lv_at hl 0 rfl) ?_
        refine gf_X10_33 (v := .int 0) S hK hP 0 rfl rfl dX10_size_56 ?_
        refine lv_if_ne (tgt := 74) hx hb dX10_size_59 (by decide) (fun c9 => absurd (by decide) c9) (fun _ => ?_)
        refine lv_aload_n hx hb dX10_size_62 rfl (lv_at hl 0 rfl) ?_
        refine lv_iload_n hx hb dX10_size_63 rfl (lv_at hl 1 rfl) ?_
        refine lv_iload_n hx hb dX10_size_64 rfl (lv_at hl 2 rfl) ?_
        refine lv_i2l hx hb dX10_size_65 rfl ?_
        refine lv_iload_n hx hb dX10_size_66 rfl (lv_at hl 3 rfl) ?_
        refine lv_i2l hx hb dX10_size_67 rfl ?_
        obtain ⟨z5, e_z5, h⟩ := obnd_eq h
        refine rdV (pc1 := 71) (rest := []) (st1 := [.long z5]) S (c_X10_sizeOf l D cI cJ cC h0 h2 h3 h1 kthis_lengths kthis_flows kthis_now kthis_trial v0_phases v0_has 0 r2 r3 p0 p1.toInt64 p2.toInt64 z5 e_z5) (cw_X10_84 S.2.2.2.2 ⟨Nat.le_of_ble_eq_true rfl, Nat.le_of_ble_eq_true rfl⟩) hK (hP.sub [0, 2, 3] rfl) rfl rfl rfl rfl hl.1 rfl (Nat.le_of_ble_eq_true rfl) ⟨Nat.zero_le _, Nat.zero_le _⟩ rfl rfl dX10_size_68 ?_
        refine lv_goto (tgt := 75) hx hb dX10_size_71 (by decide) ?_
        have h := Option.some.inj h
        subst h
        exact wRl S hr hlk (hP.sub [0, 1, 2, 3] rfl) (hD.sub [0, 1, 2, 3] (by decide) rfl) hS dX10_size_75
abbrev rm_X10_bufferOf : Room := { frames := 0, cells := 0, slots := 0, locals := 0 }
theorem dX10_bufferOf_0 : decode cX10_bufferOf 0 = .ok (.aload_n 1, 1) := by decide +kernel
theorem dX10_bufferOf_1 : decode cX10_bufferOf 1 = .ok (.iconst 3, 1) := by decide +kernel
theorem dX10_bufferOf_2 : decode cX10_bufferOf 2 = .ok (.iload_n 2, 1) := by decide +kernel
theorem dX10_bufferOf_3 : decode cX10_bufferOf 3 = .ok (.iadd, 1) := by decide +kernel
theorem dX10_bufferOf_4 : decode cX10_bufferOf 4 = .ok (.laload, 1) := by decide +kernel
theorem dX10_bufferOf_5 : decode cX10_bufferOf 5 = .ok (.aload_n 0, 1) := by decide +kernel
theorem dX10_bufferOf_6 : decode cX10_bufferOf 6 = .ok (.getfield 7, 3) := by decide +kernel
theorem dX10_bufferOf_9 : decode cX10_bufferOf 9 = .ok (.iconst 0, 1) := by decide +kernel
theorem dX10_bufferOf_10 : decode cX10_bufferOf 10 = .ok (.iaload, 1) := by decide +kernel
theorem dX10_bufferOf_11 : decode cX10_bufferOf 11 = .ok (.i2l, 1) := by decide +kernel
theorem dX10_bufferOf_12 : decode cX10_bufferOf 12 = .ok (.lmul, 1) := by decide +kernel
theorem dX10_bufferOf_13 : decode cX10_bufferOf 13 = .ok (.aload_n 1, 1) := by decide +kernel
theorem dX10_bufferOf_14 : decode cX10_bufferOf 14 = .ok (.iconst 1, 1) := by decide +kernel
theorem dX10_bufferOf_15 : decode cX10_bufferOf 15 = .ok (.laload, 1) := by decide +kernel
theorem dX10_bufferOf_16 : decode cX10_bufferOf 16 = .ok (.lsub, 1) := by decide +kernel
theorem dX10_bufferOf_17 : decode cX10_bufferOf 17 = .ok (.lreturn, 1) := by decide +kernel
def f_X10_bufferOf (r1 : Nat → Int32) (r2 : Nat → Int64) (p1 : Int32) : Option Int64 :=
  grd (vin (3 + p1) 760) <|
  some (((r2 (3 + p1).toNatClampNeg) * ((r1 0).toInt64)) - (r2 1))
set_option maxHeartbeats 4000000 in
set_option maxRecDepth 100000 in
theorem c_X10_bufferOf (l : Launch) (D : va_G) (cI cJ cC : ClassId) (h0 h1 h2 kthis_rates kthis_ladder kthis_lengths kthis_flows kthis_now kthis_trial : Nat) (v0_phases v0_has v0_thrown : Int32) (r1 : Nat → Int32) (r2 : Nat → Int64) (p1 : Int32) (t0 : Int64) (h : f_X10_bufferOf r1 r2 p1 = some t0) : Met l yX10_bufferOf (Cond.code yX10_bufferOf cX10_bufferOf 3 (some .long) :: TB) rm_X10_bufferOf (PreR D cI cJ cC [(h0, .inr (10, [.ref h1, .ref kthis_rates, .ref kthis_ladder, .ref kthis_lengths, .ref kthis_flows, .int v0_phases, .ref kthis_now, .ref kthis_trial, .int v0_has, .int v0_thrown])), (h1, .inl (cI, 15, .inl r1)), (h2, .inl (cJ, 760, .inr (.inl r2)))] [.ref h0, .ref h2, .int p1]) (QR (some (.long t0))) 0 0 free0 := by
  refine metR (own := RX10) (by decide) rfl (Nat.le_of_ble_eq_true rfl) ?_
  intro p e s m below meth c S hr hlk hP hK ls hl
  have hx := S.1
  have hb := S.2.1
  have hl : lv_has ls 3 [(0, .ref h0), (1, .ref h2), (2, .int p1)] := hl
  refine lv_aload_n hx hb dX10_bufferOf_0 rfl (lv_at hl 1 rfl) ?_
  refine lv_iconst (v := 3) hx hb dX10_bufferOf_1 li_3 ?_
  refine lv_iload_n hx hb dX10_bufferOf_2 rfl (lv_at hl 2 rfl) ?_
  refine lv_iadd hx hb dX10_bufferOf_3 ?_
  obtain ⟨g1, h⟩ := grd_eq h
  refine aldJ (k := (3 + p1).toNatClampNeg) (q0 := 2) S hK hP rfl (vin_in g1) rfl dX10_bufferOf_4 ?_
  refine lv_aload_n hx hb dX10_bufferOf_5 rfl (lv_at hl 0 rfl) ?_
  refine gf_X10_7 (v := .ref h1) S hK hP 0 rfl rfl dX10_bufferOf_6 ?_
  refine lv_iconst (v := 0) hx hb dX10_bufferOf_9 li_0 ?_
  refine aldI (k := 0) (q0 := 1) S hK hP rfl vl_0_15 tn_0 dX10_bufferOf_10 ?_
  refine lv_i2l hx hb dX10_bufferOf_11 rfl ?_
  refine lv_lmul hx hb dX10_bufferOf_12 ?_
  refine lv_aload_n hx hb dX10_bufferOf_13 rfl (lv_at hl 1 rfl) ?_
  refine lv_iconst (v := 1) hx hb dX10_bufferOf_14 li_1 ?_
  refine aldJ (k := 1) (q0 := 2) S hK hP rfl vl_1_760 tn_1 dX10_bufferOf_15 ?_
  refine lv_lsub hx hb dX10_bufferOf_16 ?_
  have h := Option.some.inj h
  subst h
  exact rRl S hr hlk dX10_bufferOf_17
abbrev rm_X10_bufferIn : Room := { frames := 1, cells := 0, slots := 0, locals := 22 }
theorem dX10_bufferIn_0 : decode cX10_bufferIn 0 = .ok (.aload_n 0, 1) := by decide +kernel
theorem dX10_bufferIn_1 : decode cX10_bufferIn 1 = .ok (.aload_n 1, 1) := by decide +kernel
theorem dX10_bufferIn_2 : decode cX10_bufferIn 2 = .ok (.iconst 0, 1) := by decide +kernel
theorem dX10_bufferIn_3 : decode cX10_bufferIn 3 = .ok (.invokevirtual 88, 3) := by decide +kernel
theorem dX10_bufferIn_6 : decode cX10_bufferIn 6 = .ok (.lstore_n 2, 1) := by decide +kernel
theorem dX10_bufferIn_7 : decode cX10_bufferIn 7 = .ok (.aload_n 0, 1) := by decide +kernel
theorem dX10_bufferIn_8 : decode cX10_bufferIn 8 = .ok (.getfield 16, 3) := by decide +kernel
theorem dX10_bufferIn_11 : decode cX10_bufferIn 11 = .ok (.iconst 1, 1) := by decide +kernel
theorem dX10_bufferIn_12 : decode cX10_bufferIn 12 = .ok (.iaload, 1) := by decide +kernel
theorem dX10_bufferIn_13 : decode cX10_bufferIn 13 = .ok (.ifCond .le 12, 3) := by decide +kernel
theorem dX10_bufferIn_16 : decode cX10_bufferIn 16 = .ok (.aload_n 0, 1) := by decide +kernel
theorem dX10_bufferIn_17 : decode cX10_bufferIn 17 = .ok (.aload_n 1, 1) := by decide +kernel
theorem dX10_bufferIn_18 : decode cX10_bufferIn 18 = .ok (.iconst 1, 1) := by decide +kernel
theorem dX10_bufferIn_19 : decode cX10_bufferIn 19 = .ok (.invokevirtual 88, 3) := by decide +kernel
theorem dX10_bufferIn_22 : decode cX10_bufferIn 22 = .ok (.goto 4, 3) := by decide +kernel
theorem dX10_bufferIn_25 : decode cX10_bufferIn 25 = .ok (.lload_n 2, 1) := by decide +kernel
theorem dX10_bufferIn_26 : decode cX10_bufferIn 26 = .ok (.lstore 4, 2) := by decide +kernel
theorem dX10_bufferIn_28 : decode cX10_bufferIn 28 = .ok (.lload_n 2, 1) := by decide +kernel
theorem dX10_bufferIn_29 : decode cX10_bufferIn 29 = .ok (.lload 4, 2) := by decide +kernel
theorem dX10_bufferIn_31 : decode cX10_bufferIn 31 = .ok (.lcmp, 1) := by decide +kernel
theorem dX10_bufferIn_32 : decode cX10_bufferIn 32 = .ok (.ifCond .ge 7, 3) := by decide +kernel
theorem dX10_bufferIn_35 : decode cX10_bufferIn 35 = .ok (.lload_n 2, 1) := by decide +kernel
theorem dX10_bufferIn_36 : decode cX10_bufferIn 36 = .ok (.goto 5, 3) := by decide +kernel
theorem dX10_bufferIn_39 : decode cX10_bufferIn 39 = .ok (.lload 4, 2) := by decide +kernel
theorem dX10_bufferIn_41 : decode cX10_bufferIn 41 = .ok (.lreturn, 1) := by decide +kernel
theorem cw_X10_88 {R : Room} {s : State} {args : Array Value} (hts : ∀ w ∈ TB, w.before args s = true) (hR : rm_X10_bufferOf.frames + 1 ≤ R.frames ∧ 8 + (3 + 11) + rm_X10_bufferOf.locals ≤ R.locals) : CallW R s args RX10 RX10 88 yX10_bufferOf cX10_bufferOf 3 (some .long) (Cond.code yX10_bufferOf cX10_bufferOf 3 (some .long) :: TB) rm_X10_bufferOf 0 0 2 := cwV 2 hts (gV tb1090 tb1091 tb29 tb57 tb1092) rfl rfl rfl ⟨rfl, by decide, by decide, by decide +kernel⟩ hR
def f_X10_bufferIn (r1 r2 : Nat → Int32) (r3 : Nat → Int64) : Option Int64 :=
  obnd (f_X10_bufferOf r2 r3 0) fun (z1 : Int64) =>
  if (r1 1) ≤ 0 then
    if z1 ≤ z1 then
      some z1
    else
      some z1
  else
    obnd (f_X10_bufferOf r2 r3 1) fun (z4 : Int64) =>
    if z4 ≤ z1 then
      some z4
    else
      some z1
set_option maxHeartbeats 4000000 in
set_option maxRecDepth 100000 in
theorem c_X10_bufferIn (l : Launch) (D : va_G) (cI cJ cC : ClassId) (h0 h1 h2 h3 kthis_rates kthis_lengths kthis_flows kthis_now kthis_trial : Nat) (v0_phases v0_has v0_thrown : Int32) (r1 r2 : Nat → Int32) (r3 : Nat → Int64)  (t0 : Int64) (h : f_X10_bufferIn r1 r2 r3 = some t0) : Met l yX10_bufferIn (Cond.code yX10_bufferIn cX10_bufferIn 6 (some .long) :: TB) rm_X10_bufferIn (PreR D cI cJ cC [(h0, .inr (10, [.ref h2, .ref kthis_rates, .ref h1, .ref kthis_lengths, .ref kthis_flows, .int v0_phases, .ref kthis_now, .ref kthis_trial, .int v0_has, .int v0_thrown])), (h1, .inl (cI, 2, .inl r1)), (h2, .inl (cI, 15, .inl r2)), (h3, .inl (cJ, 760, .inr (.inl r3)))] [.ref h0, .ref h3]) (QR (some (.long t0))) 0 0 free0 := by
  refine metR (own := RX10) (by decide) rfl (Nat.le_of_ble_eq_true rfl) ?_
  intro p e s m below meth c S hr hlk hP hK ls hl
  have hx := S.1
  have hb := S.2.1
  have hl : lv_has ls 6 [(0, .ref h0), (1, .ref h3)] := hl
  refine lv_aload_n hx hb dX10_bufferIn_0 rfl (lv_at hl 0 rfl) ?_
  refine lv_aload_n hx hb dX10_bufferIn_1 rfl (lv_at hl 1 rfl) ?_
  refine lv_iconst (v := 0) hx hb dX10_bufferIn_2 li_0 ?_
  obtain ⟨z1, e_z1, h⟩ := obnd_eq h
  refine rdV (pc1 := 6) (rest := []) (st1 := [.long z1]) S (c_X10_bufferOf l D cI cJ cC h0 h2 h3 kthis_rates h1 kthis_lengths kthis_flows kthis_now kthis_trial v0_phases v0_has v0_thrown r2 r3 0 z1 e_z1) (cw_X10_88 S.2.2.2.2 ⟨Nat.le_of_ble_eq_true rfl, Nat.le_of_ble_eq_true rfl⟩) hK (hP.sub [0, 2, 3] rfl) rfl rfl rfl rfl hl.1 rfl (Nat.le_of_ble_eq_true rfl) ⟨Nat.zero_le _, Nat.zero_le _⟩ rfl rfl dX10_bufferIn_3 ?_
  refine lv_lstore_n (lv' := [(2, .long z1), (0, .ref h0), (1, .ref h3)]) hx hb dX10_bufferIn_6 rfl hl (by decide) rfl (fun ls hl => ?_)
  refine lv_aload_n hx hb dX10_bufferIn_7 rfl (lv_at hl 1 rfl) ?_
  refine gf_X10_16 (v := .ref h1) S hK hP 0 rfl rfl dX10_bufferIn_8 ?_
  refine lv_iconst (v := 1) hx hb dX10_bufferIn_11 li_1 ?_
  refine aldI (k := 1) (q0 := 1) S hK hP rfl vl_1_2 tn_1 dX10_bufferIn_12 ?_
  refine lv_if_le (tgt := 25) hx hb dX10_bufferIn_13 (by decide) (fun c2 => ?_) (fun c2 => ?_)
  · have h := iteP c2 h
    refine lv_lload_n hx hb dX10_bufferIn_25 rfl (lv_at hl 0 rfl) ?_
    refine lv_lstore (lv' := [(4, .long z1), (2, .long z1), (0, .ref h0), (1, .ref h3)]) hx hb dX10_bufferIn_26 hl (by decide) rfl (fun ls hl => ?_)
    refine lv_lload_n hx hb dX10_bufferIn_28 rfl (lv_at hl 1 rfl) ?_
    refine lv_lload hx hb dX10_bufferIn_29 (lv_at hl 0 rfl) ?_
    refine lc_ge (tgt := 39) hx hb dX10_bufferIn_31 dX10_bufferIn_32 (by decide) (fun c3 => ?_) (fun c3 => ?_)
    · have h := iteP c3 h
      refine lv_lload hx hb dX10_bufferIn_39 (lv_at hl 0 rfl) ?_
      have h := Option.some.inj h
      subst h
      exact rRl S hr hlk dX10_bufferIn_41
    · have h := iteN c3 h
      refine lv_lload_n hx hb dX10_bufferIn_35 rfl (lv_at hl 1 rfl) ?_
      refine lv_goto (tgt := 41) hx hb dX10_bufferIn_36 (by decide) ?_
      have h := Option.some.inj h
      subst h
      exact rRl S hr hlk dX10_bufferIn_41
  · have h := iteN c2 h
    refine lv_aload_n hx hb dX10_bufferIn_16 rfl (lv_at hl 1 rfl) ?_
    refine lv_aload_n hx hb dX10_bufferIn_17 rfl (lv_at hl 2 rfl) ?_
    refine lv_iconst (v := 1) hx hb dX10_bufferIn_18 li_1 ?_
    obtain ⟨z4, e_z4, h⟩ := obnd_eq h
    refine rdV (pc1 := 22) (rest := []) (st1 := [.long z4]) S (c_X10_bufferOf l D cI cJ cC h0 h2 h3 kthis_rates h1 kthis_lengths kthis_flows kthis_now kthis_trial v0_phases v0_has v0_thrown r2 r3 1 z4 e_z4) (cw_X10_88 S.2.2.2.2 ⟨Nat.le_of_ble_eq_true rfl, Nat.le_of_ble_eq_true rfl⟩) hK (hP.sub [0, 2, 3] rfl) rfl rfl rfl rfl hl.1 rfl (Nat.le_of_ble_eq_true rfl) ⟨Nat.zero_le _, Nat.zero_le _⟩ rfl rfl dX10_bufferIn_19 ?_
    refine lv_goto (tgt := 26) hx hb dX10_bufferIn_22 (by decide) ?_
    refine lv_lstore (lv' := [(4, .long z4), (2, .long z1), (0, .ref h0), (1, .ref h3)]) hx hb dX10_bufferIn_26 hl (by decide) rfl (fun ls hl => ?_)
    refine lv_lload_n hx hb dX10_bufferIn_28 rfl (lv_at hl 1 rfl) ?_
    refine lv_lload hx hb dX10_bufferIn_29 (lv_at hl 0 rfl) ?_
    refine lc_ge (tgt := 39) hx hb dX10_bufferIn_31 dX10_bufferIn_32 (by decide) (fun c5 => ?_) (fun c5 => ?_)
    · have h := iteP c5 h
      refine lv_lload hx hb dX10_bufferIn_39 (lv_at hl 0 rfl) ?_
      have h := Option.some.inj h
      subst h
      exact rRl S hr hlk dX10_bufferIn_41
    · have h := iteN c5 h
      refine lv_lload_n hx hb dX10_bufferIn_35 rfl (lv_at hl 1 rfl) ?_
      refine lv_goto (tgt := 41) hx hb dX10_bufferIn_36 (by decide) ?_
      have h := Option.some.inj h
      subst h
      exact rRl S hr hlk dX10_bufferIn_41
abbrev rm_X10_estimateOf : Room := { frames := 0, cells := 0, slots := 0, locals := 0 }
theorem dX10_estimateOf_0 : decode cX10_estimateOf 0 = .ok (.lconst 0, 1) := by decide +kernel
theorem dX10_estimateOf_1 : decode cX10_estimateOf 1 = .ok (.lstore_n 2, 1) := by decide +kernel
theorem dX10_estimateOf_2 : decode cX10_estimateOf 2 = .ok (.lconst 0, 1) := by decide +kernel
theorem dX10_estimateOf_3 : decode cX10_estimateOf 3 = .ok (.lstore 4, 2) := by decide +kernel
theorem dX10_estimateOf_5 : decode cX10_estimateOf 5 = .ok (.iconst 0, 1) := by decide +kernel
theorem dX10_estimateOf_6 : decode cX10_estimateOf 6 = .ok (.istore 6, 2) := by decide +kernel
theorem dX10_estimateOf_8 : decode cX10_estimateOf 8 = .ok (.iload 6, 2) := by decide +kernel
theorem dX10_estimateOf_10 : decode cX10_estimateOf 10 = .ok (.iload_n 1, 1) := by decide +kernel
theorem dX10_estimateOf_11 : decode cX10_estimateOf 11 = .ok (.if_icmp .ge 42, 3) := by decide +kernel
theorem dX10_estimateOf_14 : decode cX10_estimateOf 14 = .ok (.iload 6, 2) := by decide +kernel
theorem dX10_estimateOf_16 : decode cX10_estimateOf 16 = .ok (.i2l, 1) := by decide +kernel
theorem dX10_estimateOf_17 : decode cX10_estimateOf 17 = .ok (.aload_n 0, 1) := by decide +kernel
theorem dX10_estimateOf_18 : decode cX10_estimateOf 18 = .ok (.bipush 24, 2) := by decide +kernel
theorem dX10_estimateOf_20 : decode cX10_estimateOf 20 = .ok (.laload, 1) := by decide +kernel
theorem dX10_estimateOf_21 : decode cX10_estimateOf 21 = .ok (.lcmp, 1) := by decide +kernel
theorem dX10_estimateOf_22 : decode cX10_estimateOf 22 = .ok (.ifCond .ge 31, 3) := by decide +kernel
theorem dX10_estimateOf_25 : decode cX10_estimateOf 25 = .ok (.lload_n 2, 1) := by decide +kernel
theorem dX10_estimateOf_26 : decode cX10_estimateOf 26 = .ok (.aload_n 0, 1) := by decide +kernel
theorem dX10_estimateOf_27 : decode cX10_estimateOf 27 = .ok (.bipush 25, 2) := by decide +kernel
theorem dX10_estimateOf_29 : decode cX10_estimateOf 29 = .ok (.iload 6, 2) := by decide +kernel
theorem dX10_estimateOf_31 : decode cX10_estimateOf 31 = .ok (.iadd, 1) := by decide +kernel
theorem dX10_estimateOf_32 : decode cX10_estimateOf 32 = .ok (.laload, 1) := by decide +kernel
theorem dX10_estimateOf_33 : decode cX10_estimateOf 33 = .ok (.ladd, 1) := by decide +kernel
theorem dX10_estimateOf_34 : decode cX10_estimateOf 34 = .ok (.lstore_n 2, 1) := by decide +kernel
theorem dX10_estimateOf_35 : decode cX10_estimateOf 35 = .ok (.lload 4, 2) := by decide +kernel
theorem dX10_estimateOf_37 : decode cX10_estimateOf 37 = .ok (.aload_n 0, 1) := by decide +kernel
theorem dX10_estimateOf_38 : decode cX10_estimateOf 38 = .ok (.bipush 35, 2) := by decide +kernel
theorem dX10_estimateOf_40 : decode cX10_estimateOf 40 = .ok (.iload 6, 2) := by decide +kernel
theorem dX10_estimateOf_42 : decode cX10_estimateOf 42 = .ok (.iadd, 1) := by decide +kernel
theorem dX10_estimateOf_43 : decode cX10_estimateOf 43 = .ok (.laload, 1) := by decide +kernel
theorem dX10_estimateOf_44 : decode cX10_estimateOf 44 = .ok (.ladd, 1) := by decide +kernel
theorem dX10_estimateOf_45 : decode cX10_estimateOf 45 = .ok (.lstore 4, 2) := by decide +kernel
theorem dX10_estimateOf_47 : decode cX10_estimateOf 47 = .ok (.iinc 6 1, 3) := by decide +kernel
theorem dX10_estimateOf_50 : decode cX10_estimateOf 50 = .ok (.goto (-42), 3) := by decide +kernel
theorem dX10_estimateOf_53 : decode cX10_estimateOf 53 = .ok (.lload 4, 2) := by decide +kernel
theorem dX10_estimateOf_55 : decode cX10_estimateOf 55 = .ok (.lconst 0, 1) := by decide +kernel
theorem dX10_estimateOf_56 : decode cX10_estimateOf 56 = .ok (.lcmp, 1) := by decide +kernel
theorem dX10_estimateOf_57 : decode cX10_estimateOf 57 = .ok (.ifCond .ne 7, 3) := by decide +kernel
theorem dX10_estimateOf_60 : decode cX10_estimateOf 60 = .ok (.lconst 0, 1) := by decide +kernel
theorem dX10_estimateOf_61 : decode cX10_estimateOf 61 = .ok (.goto 7, 3) := by decide +kernel
theorem dX10_estimateOf_64 : decode cX10_estimateOf 64 = .ok (.lload_n 2, 1) := by decide +kernel
theorem dX10_estimateOf_65 : decode cX10_estimateOf 65 = .ok (.lload 4, 2) := by decide +kernel
theorem dX10_estimateOf_67 : decode cX10_estimateOf 67 = .ok (.ldiv, 1) := by decide +kernel
theorem dX10_estimateOf_68 : decode cX10_estimateOf 68 = .ok (.lreturn, 1) := by decide +kernel
def f_X10_estimateOf_b8 (r0 : Nat → Int64) : Nat → Int32 → Int64 → Int64 → Int32 → Option Int64
  | 0, _, _, _, _ => none
  | n + 1, l1, l2, l4, l6 =>
    if l1 ≤ l6 then
      if l4 = 0 then
        some 0
      else
        grd (nz64 l4) <|
        some (l2 / l4)
    else
      if (r0 24) ≤ l6.toInt64 then
        if l4 = 0 then
          some 0
        else
          grd (nz64 l4) <|
          some (l2 / l4)
      else
        grd (vin (25 + l6) 760) <|
        bnd (l2 + (r0 (25 + l6).toNatClampNeg)) fun (z8 : Int64) =>
        grd (vin (35 + l6) 760) <|
        bnd (l4 + (r0 (35 + l6).toNatClampNeg)) fun (z10 : Int64) =>
        f_X10_estimateOf_b8 r0 n l1 z8 z10 (l6 + 1)
def f_X10_estimateOf (r0 : Nat → Int64) (p1 : Int32) : Option Int64 :=
  f_X10_estimateOf_b8 r0 (((p1.toInt - (0 : Int32).toInt).toNat) + 1) p1 0 0 0
set_option maxHeartbeats 4000000 in
set_option maxRecDepth 100000 in
theorem k_X10_estimateOf_b8 {p : Program} {l : Launch} {e : Env} {s : State} {m : MethodId} {args : Array Value} {below : List Frame} {meth : Method} {c : Code} {D : va_G} {cI cJ cC : ClassId} {h0 : Nat} {r0 : Nat → Int64} {t0 : Int64}(S : CallFix p m c cX10_estimateOf 7 s args TB RX10) (hr : meth.sig.returnType = (some .long)) (hlk : meth.locks = false) (hK : va_K D vwCl (ty3 cI cJ cC) s) (hP : va_P D vwCl [(h0, .inl (cJ, 760, .inr (.inl r0)))] s.heap) : ∀ (n : Nat) (l1 : Int32) (l2 l4 : Int64) (l6 : Int32) (ls : Array Slot), (l1.toInt - l6.toInt).toNat < n → f_X10_estimateOf_b8 r0 n l1 l2 l4 l6 = some t0 → lv_has ls 7 [(0, .ref h0), (1, .int l1), (2, .long l2), (4, .long l4), (6, .int l6)] → W p l e rm_X10_estimateOf s m args below meth c s.heap [] 0 0 (MQ below (QR (some (.long t0))) args s 0 0 free0) (F0 m 8 ls []) := by
  have hx := S.1
  have hb := S.2.1
  intro n
  induction n with
  | zero => intro l1 l2 l4 l6 ls  hmu; exact absurd hmu (Nat.not_lt_zero _)
  | succ n ih =>
    intro l1 l2 l4 l6 ls  hmu h hl
    refine lv_iload hx hb dX10_estimateOf_8 (lv_at hl 4 rfl) ?_
    refine lv_iload_n hx hb dX10_estimateOf_10 rfl (lv_at hl 1 rfl) ?_
    refine lv_icmp_ge (tgt := 53) hx hb dX10_estimateOf_11 (by decide) (fun c1 => ?_) (fun c1 => ?_)
    · have h := iteP c1 h
      refine lv_lload hx hb dX10_estimateOf_53 (lv_at hl 3 rfl) ?_
      refine lv_lconst (v := 0) hx hb dX10_estimateOf_55 rfl ?_
      refine lc_ne (tgt := 64) hx hb dX10_estimateOf_56 dX10_estimateOf_57 (by decide) (fun c2 => ?_) (fun c2 => ?_)
      · have h := iteN c2 h
        refine lv_lload_n hx hb dX10_estimateOf_64 rfl (lv_at hl 2 rfl) ?_
        refine lv_lload hx hb dX10_estimateOf_65 (lv_at hl 3 rfl) ?_
        obtain ⟨g3, h⟩ := grd_eq h
        refine lv_ldiv hx hb dX10_estimateOf_67 (nz64_ne g3) ?_
        have h := Option.some.inj h
        subst h
        exact rRl S hr hlk dX10_estimateOf_68
      · have h := iteP c2 h
        refine lv_lconst (v := 0) hx hb dX10_estimateOf_60 rfl ?_
        refine lv_goto (tgt := 68) hx hb dX10_estimateOf_61 (by decide) ?_
        have h := Option.some.inj h
        subst h
        exact rRl S hr hlk dX10_estimateOf_68
    · have h := iteN c1 h
      refine lv_iload hx hb dX10_estimateOf_14 (lv_at hl 4 rfl) ?_
      refine lv_i2l hx hb dX10_estimateOf_16 rfl ?_
      refine lv_aload_n hx hb dX10_estimateOf_17 rfl (lv_at hl 0 rfl) ?_
      refine lv_bipush (v := 24) hx hb dX10_estimateOf_18 lb_24 ?_
      refine aldJ (k := 24) (q0 := 0) S hK hP rfl vl_24_760 tn_24 dX10_estimateOf_20 ?_
      refine lc_ge (tgt := 53) hx hb dX10_estimateOf_21 dX10_estimateOf_22 (by decide) (fun c4 => ?_) (fun c4 => ?_)
      · have h := iteP c4 h
        refine lv_lload hx hb dX10_estimateOf_53 (lv_at hl 3 rfl) ?_
        refine lv_lconst (v := 0) hx hb dX10_estimateOf_55 rfl ?_
        refine lc_ne (tgt := 64) hx hb dX10_estimateOf_56 dX10_estimateOf_57 (by decide) (fun c5 => ?_) (fun c5 => ?_)
        · have h := iteN c5 h
          refine lv_lload_n hx hb dX10_estimateOf_64 rfl (lv_at hl 2 rfl) ?_
          refine lv_lload hx hb dX10_estimateOf_65 (lv_at hl 3 rfl) ?_
          obtain ⟨g6, h⟩ := grd_eq h
          refine lv_ldiv hx hb dX10_estimateOf_67 (nz64_ne g6) ?_
          have h := Option.some.inj h
          subst h
          exact rRl S hr hlk dX10_estimateOf_68
        · have h := iteP c5 h
          refine lv_lconst (v := 0) hx hb dX10_estimateOf_60 rfl ?_
          refine lv_goto (tgt := 68) hx hb dX10_estimateOf_61 (by decide) ?_
          have h := Option.some.inj h
          subst h
          exact rRl S hr hlk dX10_estimateOf_68
      · have h := iteN c4 h
        refine lv_lload_n hx hb dX10_estimateOf_25 rfl (lv_at hl 2 rfl) ?_
        refine lv_aload_n hx hb dX10_estimateOf_26 rfl (lv_at hl 0 rfl) ?_
        refine lv_bipush (v := 25) hx hb dX10_estimateOf_27 lb_25 ?_
        refine lv_iload hx hb dX10_estimateOf_29 (lv_at hl 4 rfl) ?_
        refine lv_iadd hx hb dX10_estimateOf_31 ?_
        obtain ⟨g7, h⟩ := grd_eq h
        refine aldJ (k := (25 + l6).toNatClampNeg) (q0 := 0) S hK hP rfl (vin_in g7) rfl dX10_estimateOf_32 ?_
        refine lv_ladd hx hb dX10_estimateOf_33 ?_
        refine lv_topl (fun z8 e_z8 => ?_)
        have h := bnd_eq e_z8.symm h
        refine lv_lstore_n (lv' := [(2, .long z8), (0, .ref h0), (1, .int l1), (4, .long l4), (6, .int l6)]) hx hb dX10_estimateOf_34 rfl hl (by decide) rfl (fun ls hl => ?_)
        refine lv_lload hx hb dX10_estimateOf_35 (lv_at hl 3 rfl) ?_
        refine lv_aload_n hx hb dX10_estimateOf_37 rfl (lv_at hl 1 rfl) ?_
        refine lv_bipush (v := 35) hx hb dX10_estimateOf_38 lb_35 ?_
        refine lv_iload hx hb dX10_estimateOf_40 (lv_at hl 4 rfl) ?_
        refine lv_iadd hx hb dX10_estimateOf_42 ?_
        obtain ⟨g9, h⟩ := grd_eq h
        refine aldJ (k := (35 + l6).toNatClampNeg) (q0 := 0) S hK hP rfl (vin_in g9) rfl dX10_estimateOf_43 ?_
        refine lv_ladd hx hb dX10_estimateOf_44 ?_
        refine lv_topl (fun z10 e_z10 => ?_)
        have h := bnd_eq e_z10.symm h
        refine lv_lstore (lv' := [(4, .long z10), (2, .long z8), (0, .ref h0), (1, .int l1), (6, .int l6)]) hx hb dX10_estimateOf_45 hl (by decide) rfl (fun ls hl => ?_)
        refine lv_iinc (v := l6 + 1) (lv' := [(6, .int (l6 + 1)), (4, .long z10), (2, .long z8), (0, .ref h0), (1, .int l1)]) hx hb dX10_estimateOf_47 hl (k := 4) rfl rfl (by decide) rfl (fun ls hl => ?_)
        refine lv_goto (tgt := 8) hx hb dX10_estimateOf_50 (by decide) ?_
        exact ih l1 z8 z10 (l6 + 1) _ (by first | exact mu_upA (by assumption) hmu | exact mu_upB (by assumption) hmu) h  (lv_sub hl [3, 4, 2, 1, 0] rfl)
set_option maxHeartbeats 4000000 in
set_option maxRecDepth 100000 in
theorem c_X10_estimateOf (l : Launch) (D : va_G) (cI cJ cC : ClassId) (h0 : Nat) (r0 : Nat → Int64) (p1 : Int32) (t0 : Int64) (h : f_X10_estimateOf r0 p1 = some t0) : Met l yX10_estimateOf (Cond.code yX10_estimateOf cX10_estimateOf 7 (some .long) :: TB) rm_X10_estimateOf (PreR D cI cJ cC [(h0, .inl (cJ, 760, .inr (.inl r0)))] [.ref h0, .int p1]) (QR (some (.long t0))) 0 0 free0 := by
  refine metR (own := RX10) (by decide) rfl (Nat.le_of_ble_eq_true rfl) ?_
  intro p e s m below meth c S hr hlk hP hK ls hl
  have hx := S.1
  have hb := S.2.1
  have hl : lv_has ls 7 [(0, .ref h0), (1, .int p1)] := hl
  refine lv_lconst (v := 0) hx hb dX10_estimateOf_0 rfl ?_
  refine lv_lstore_n (lv' := [(2, .long 0), (0, .ref h0), (1, .int p1)]) hx hb dX10_estimateOf_1 rfl hl (by decide) rfl (fun ls hl => ?_)
  refine lv_lconst (v := 0) hx hb dX10_estimateOf_2 rfl ?_
  refine lv_lstore (lv' := [(4, .long 0), (2, .long 0), (0, .ref h0), (1, .int p1)]) hx hb dX10_estimateOf_3 hl (by decide) rfl (fun ls hl => ?_)
  refine lv_iconst (v := 0) hx hb dX10_estimateOf_5 li_0 ?_
  refine lv_istore (lv' := [(6, .int 0), (4, .long 0), (2, .long 0), (0, .ref h0), (1, .int p1)]) hx hb dX10_estimateOf_6 hl (by decide) rfl (fun ls hl => ?_)
  exact k_X10_estimateOf_b8 S hr hlk hK hP _ p1 0 0 0 _ (Nat.lt_succ_self _) h  (lv_sub hl [3, 4, 2, 1, 0] rfl)
abbrev rm_X10_borne : Room := { frames := 1, cells := 0, slots := 0, locals := 26 }
theorem dX10_borne_0 : decode cX10_borne 0 = .ok (.aload_n 1, 1) := by decide +kernel
theorem dX10_borne_1 : decode cX10_borne 1 = .ok (.aload_n 0, 1) := by decide +kernel
theorem dX10_borne_2 : decode cX10_borne 2 = .ok (.getfield 7, 3) := by decide +kernel
theorem dX10_borne_5 : decode cX10_borne 5 = .ok (.bipush 8, 2) := by decide +kernel
theorem dX10_borne_7 : decode cX10_borne 7 = .ok (.iaload, 1) := by decide +kernel
theorem dX10_borne_8 : decode cX10_borne 8 = .ok (.invokestatic 92, 3) := by decide +kernel
theorem dX10_borne_11 : decode cX10_borne 11 = .ok (.aload_n 0, 1) := by decide +kernel
theorem dX10_borne_12 : decode cX10_borne 12 = .ok (.getfield 7, 3) := by decide +kernel
theorem dX10_borne_15 : decode cX10_borne 15 = .ok (.bipush 9, 2) := by decide +kernel
theorem dX10_borne_17 : decode cX10_borne 17 = .ok (.iaload, 1) := by decide +kernel
theorem dX10_borne_18 : decode cX10_borne 18 = .ok (.i2l, 1) := by decide +kernel
theorem dX10_borne_19 : decode cX10_borne 19 = .ok (.lmul, 1) := by decide +kernel
theorem dX10_borne_20 : decode cX10_borne 20 = .ok (.lstore 5, 2) := by decide +kernel
theorem dX10_borne_22 : decode cX10_borne 22 = .ok (.lconst 0, 1) := by decide +kernel
theorem dX10_borne_23 : decode cX10_borne 23 = .ok (.lstore 7, 2) := by decide +kernel
theorem dX10_borne_25 : decode cX10_borne 25 = .ok (.iconst 0, 1) := by decide +kernel
theorem dX10_borne_26 : decode cX10_borne 26 = .ok (.istore 9, 2) := by decide +kernel
theorem dX10_borne_28 : decode cX10_borne 28 = .ok (.iload 9, 2) := by decide +kernel
theorem dX10_borne_30 : decode cX10_borne 30 = .ok (.aload_n 0, 1) := by decide +kernel
theorem dX10_borne_31 : decode cX10_borne 31 = .ok (.getfield 16, 3) := by decide +kernel
theorem dX10_borne_34 : decode cX10_borne 34 = .ok (.iload_n 2, 1) := by decide +kernel
theorem dX10_borne_35 : decode cX10_borne 35 = .ok (.iaload, 1) := by decide +kernel
theorem dX10_borne_36 : decode cX10_borne 36 = .ok (.if_icmp .ge 36, 3) := by decide +kernel
theorem dX10_borne_39 : decode cX10_borne 39 = .ok (.aload_n 0, 1) := by decide +kernel
theorem dX10_borne_40 : decode cX10_borne 40 = .ok (.iload_n 2, 1) := by decide +kernel
theorem dX10_borne_41 : decode cX10_borne 41 = .ok (.iload 9, 2) := by decide +kernel
theorem dX10_borne_43 : decode cX10_borne 43 = .ok (.i2l, 1) := by decide +kernel
theorem dX10_borne_44 : decode cX10_borne 44 = .ok (.invokevirtual 59, 3) := by decide +kernel
theorem dX10_borne_47 : decode cX10_borne 47 = .ok (.i2l, 1) := by decide +kernel
theorem dX10_borne_48 : decode cX10_borne 48 = .ok (.lload_n 3, 1) := by decide +kernel
theorem dX10_borne_49 : decode cX10_borne 49 = .ok (.lmul, 1) := by decide +kernel
theorem dX10_borne_50 : decode cX10_borne 50 = .ok (.lload 5, 2) := by decide +kernel
theorem dX10_borne_52 : decode cX10_borne 52 = .ok (.lcmp, 1) := by decide +kernel
theorem dX10_borne_53 : decode cX10_borne 53 = .ok (.ifCond .gt 9, 3) := by decide +kernel
theorem dX10_borne_56 : decode cX10_borne 56 = .ok (.iload 9, 2) := by decide +kernel
theorem dX10_borne_58 : decode cX10_borne 58 = .ok (.i2l, 1) := by decide +kernel
theorem dX10_borne_59 : decode cX10_borne 59 = .ok (.goto 5, 3) := by decide +kernel
theorem dX10_borne_62 : decode cX10_borne 62 = .ok (.lload 7, 2) := by decide +kernel
theorem dX10_borne_64 : decode cX10_borne 64 = .ok (.lstore 7, 2) := by decide +kernel
theorem dX10_borne_66 : decode cX10_borne 66 = .ok (.iinc 9 1, 3) := by decide +kernel
theorem dX10_borne_69 : decode cX10_borne 69 = .ok (.goto (-41), 3) := by decide +kernel
theorem dX10_borne_72 : decode cX10_borne 72 = .ok (.lload 7, 2) := by decide +kernel
theorem dX10_borne_74 : decode cX10_borne 74 = .ok (.lreturn, 1) := by decide +kernel
theorem cw_X10_92 {R : Room} {s : State} {args : Array Value} (hts : ∀ w ∈ TB, w.before args s = true) (hR : rm_X10_estimateOf.frames + 1 ≤ R.frames ∧ 8 + (7 + 11) + rm_X10_estimateOf.locals ≤ R.locals) : CallB R s args RX10 92 yX10_estimateOf cX10_estimateOf 7 (some .long) (Cond.code yX10_estimateOf cX10_estimateOf 7 (some .long) :: TB) rm_X10_estimateOf 0 0 2 ∧ (Cond.static yX10_estimateOf).before args s = true := cwS 2 hts (gS tb1099 tb1100 tb57 tb1101) rfl rfl rfl ⟨rfl, by decide, by decide, by decide +kernel⟩ hR
def f_X10_borne_b28 (r1 r3 : Nat → Int32) : Nat → Int32 → Int64 → Int64 → Int64 → Int32 → Option Int64
  | 0, _, _, _, _, _ => none
  | n + 1, l2, l3, l5, l7, l9 =>
    grd (vin l2 2) <|
    if (r1 l2.toNatClampNeg) ≤ l9 then
      some l7
    else
      obnd (f_X10_rate r3 l2 l9.toInt64) fun (y3 : Int32) =>
      if l5 < (y3.toInt64 * l3) then
        f_X10_borne_b28 r1 r3 n l2 l3 l5 l7 (l9 + 1)
      else
        f_X10_borne_b28 r1 r3 n l2 l3 l5 l9.toInt64 (l9 + 1)
def f_X10_borne (r1 r2 r3 : Nat → Int32) (r4 : Nat → Int64) (p1 : Int32) (p2 : Int64) : Option Int64 :=
  obnd (f_X10_estimateOf r4 (r2 8)) fun (z1 : Int64) =>
  f_X10_borne_b28 r1 r3 ((((r1 p1.toNatClampNeg).toInt - (0 : Int32).toInt).toNat) + 1) p1 p2 (z1 * ((r2 9).toInt64)) 0 0
set_option maxHeartbeats 4000000 in
set_option maxRecDepth 100000 in
theorem k_X10_borne_b28 {p : Program} {l : Launch} {e : Env} {s : State} {m : MethodId} {args : Array Value} {below : List Frame} {meth : Method} {c : Code} {D : va_G} {cI cJ cC : ClassId} {h0 h1 h2 h3 h4 kthis_lengths kthis_flows kthis_now kthis_trial : Nat} {v0_phases v0_has v0_thrown : Int32} {r1 r2 r3 : Nat → Int32} {r4 : Nat → Int64} {t0 : Int64}(S : CallFix p m c cX10_borne 10 s args TB RX10) (hr : meth.sig.returnType = (some .long)) (hlk : meth.locks = false) (hK : va_K D vwCl (ty3 cI cJ cC) s) (hP : va_P D vwCl [(h0, .inr (10, [.ref h2, .ref h3, .ref h1, .ref kthis_lengths, .ref kthis_flows, .int v0_phases, .ref kthis_now, .ref kthis_trial, .int v0_has, .int v0_thrown])), (h1, .inl (cI, 2, .inl r1)), (h2, .inl (cI, 15, .inl r2)), (h3, .inl (cI, 12, .inl r3)), (h4, .inl (cJ, 760, .inr (.inl r4)))] s.heap) : ∀ (n : Nat) (l2 : Int32) (l3 l5 l7 : Int64) (l9 : Int32) (ls : Array Slot), ((r1 l2.toNatClampNeg).toInt - l9.toInt).toNat < n → f_X10_borne_b28 r1 r3 n l2 l3 l5 l7 l9 = some t0 → lv_has ls 10 [(0, .ref h0), (2, .int l2), (3, .long l3), (5, .long l5), (7, .long l7), (9, .int l9)] → W p l e rm_X10_borne s m args below meth c s.heap [] 0 0 (MQ below (QR (some (.long t0))) args s 0 0 free0) (F0 m 28 ls []) := by
  have hx := S.1
  have hb := S.2.1
  intro n
  induction n with
  | zero => intro l2 l3 l5 l7 l9 ls  hmu; exact absurd hmu (Nat.not_lt_zero _)
  | succ n ih =>
    intro l2 l3 l5 l7 l9 ls  hmu h hl
    refine lv_iload hx hb dX10_borne_28 (lv_at hl 5 rfl) ?_
    refine lv_aload_n hx hb dX10_borne_30 rfl (lv_at hl 0 rfl) ?_
    refine gf_X10_16 (v := .ref h1) S hK hP 0 rfl rfl dX10_borne_31 ?_
    refine lv_iload_n hx hb dX10_borne_34 rfl (lv_at hl 1 rfl) ?_
    obtain ⟨g1, h⟩ := grd_eq h
    refine aldI (k := l2.toNatClampNeg) (q0 := 1) S hK hP rfl (vin_in g1) rfl dX10_borne_35 ?_
    refine lv_icmp_ge (tgt := 72) hx hb dX10_borne_36 (by decide) (fun c2 => ?_) (fun c2 => ?_)
    · have h := iteP c2 h
      refine lv_lload hx hb dX10_borne_72 (lv_at hl 4 rfl) ?_
      have h := Option.some.inj h
      subst h
      exact rRl S hr hlk dX10_borne_74
    · have h := iteN c2 h
      refine lv_aload_n hx hb dX10_borne_39 rfl (lv_at hl 0 rfl) ?_
      refine lv_iload_n hx hb dX10_borne_40 rfl (lv_at hl 1 rfl) ?_
      refine lv_iload hx hb dX10_borne_41 (lv_at hl 5 rfl) ?_
      refine lv_i2l hx hb dX10_borne_43 rfl ?_
      obtain ⟨y3, e_y3, h⟩ := obnd_eq h
      refine rdV (pc1 := 47) (rest := []) (st1 := [.int y3]) S (c_X10_rate l D cI cJ cC h0 h3 h2 h1 kthis_lengths kthis_flows kthis_now kthis_trial v0_phases v0_has v0_thrown r3 l2 l9.toInt64 y3 e_y3) (cw_X10_59 S.2.2.2.2 ⟨Nat.le_of_ble_eq_true rfl, Nat.le_of_ble_eq_true rfl⟩) hK (hP.sub [0, 3] rfl) rfl rfl rfl rfl hl.1 rfl (Nat.le_of_ble_eq_true rfl) ⟨Nat.zero_le _, Nat.zero_le _⟩ rfl rfl dX10_borne_44 ?_
      refine lv_i2l hx hb dX10_borne_47 rfl ?_
      refine lv_lload_n hx hb dX10_borne_48 rfl (lv_at hl 2 rfl) ?_
      refine lv_lmul hx hb dX10_borne_49 ?_
      refine lv_lload hx hb dX10_borne_50 (lv_at hl 3 rfl) ?_
      refine lc_gt (tgt := 62) hx hb dX10_borne_52 dX10_borne_53 (by decide) (fun c4 => ?_) (fun c4 => ?_)
      · have h := iteP c4 h
        refine lv_lload hx hb dX10_borne_62 (lv_at hl 4 rfl) ?_
        refine lv_lstore (lv' := [(7, .long l7), (0, .ref h0), (2, .int l2), (3, .long l3), (5, .long l5), (9, .int l9)]) hx hb dX10_borne_64 hl (by decide) rfl (fun ls hl => ?_)
        refine lv_iinc (v := l9 + 1) (lv' := [(9, .int (l9 + 1)), (7, .long l7), (0, .ref h0), (2, .int l2), (3, .long l3), (5, .long l5)]) hx hb dX10_borne_66 hl (k := 5) rfl rfl (by decide) rfl (fun ls hl => ?_)
        refine lv_goto (tgt := 28) hx hb dX10_borne_69 (by decide) ?_
        exact ih l2 l3 l5 l7 (l9 + 1) _ (by first | exact mu_upA (by assumption) hmu | exact mu_upB (by assumption) hmu) h  (lv_sub hl [2, 3, 4, 5, 1, 0] rfl)
      · have h := iteN c4 h
        refine lv_iload hx hb dX10_borne_56 (lv_at hl 5 rfl) ?_
        refine lv_i2l hx hb dX10_borne_58 rfl ?_
        refine lv_goto (tgt := 64) hx hb dX10_borne_59 (by decide) ?_
        refine lv_lstore (lv' := [(7, .long l9.toInt64), (0, .ref h0), (2, .int l2), (3, .long l3), (5, .long l5), (9, .int l9)]) hx hb dX10_borne_64 hl (by decide) rfl (fun ls hl => ?_)
        refine lv_iinc (v := l9 + 1) (lv' := [(9, .int (l9 + 1)), (7, .long l9.toInt64), (0, .ref h0), (2, .int l2), (3, .long l3), (5, .long l5)]) hx hb dX10_borne_66 hl (k := 5) rfl rfl (by decide) rfl (fun ls hl => ?_)
        refine lv_goto (tgt := 28) hx hb dX10_borne_69 (by decide) ?_
        exact ih l2 l3 l5 l9.toInt64 (l9 + 1) _ (by first | exact mu_upA (by assumption) hmu | exact mu_upB (by assumption) hmu) h  (lv_sub hl [2, 3, 4, 5, 1, 0] rfl)
set_option maxHeartbeats 4000000 in
set_option maxRecDepth 100000 in
theorem c_X10_borne (l : Launch) (D : va_G) (cI cJ cC : ClassId) (h0 h1 h2 h3 h4 kthis_lengths kthis_flows kthis_now kthis_trial : Nat) (v0_phases v0_has v0_thrown : Int32) (r1 r2 r3 : Nat → Int32) (r4 : Nat → Int64) (p1 : Int32) (p2 : Int64) (t0 : Int64) (h : f_X10_borne r1 r2 r3 r4 p1 p2 = some t0) : Met l yX10_borne (Cond.code yX10_borne cX10_borne 10 (some .long) :: TB) rm_X10_borne (PreR D cI cJ cC [(h0, .inr (10, [.ref h2, .ref h3, .ref h1, .ref kthis_lengths, .ref kthis_flows, .int v0_phases, .ref kthis_now, .ref kthis_trial, .int v0_has, .int v0_thrown])), (h1, .inl (cI, 2, .inl r1)), (h2, .inl (cI, 15, .inl r2)), (h3, .inl (cI, 12, .inl r3)), (h4, .inl (cJ, 760, .inr (.inl r4)))] [.ref h0, .ref h4, .int p1, .long p2]) (QR (some (.long t0))) 0 0 free0 := by
  refine metR (own := RX10) (by decide) rfl (Nat.le_of_ble_eq_true rfl) ?_
  intro p e s m below meth c S hr hlk hP hK ls hl
  have hx := S.1
  have hb := S.2.1
  have hl : lv_has ls 10 [(0, .ref h0), (1, .ref h4), (2, .int p1), (3, .long p2)] := hl
  refine lv_aload_n hx hb dX10_borne_0 rfl (lv_at hl 1 rfl) ?_
  refine lv_aload_n hx hb dX10_borne_1 rfl (lv_at hl 0 rfl) ?_
  refine gf_X10_7 (v := .ref h2) S hK hP 0 rfl rfl dX10_borne_2 ?_
  refine lv_bipush (v := 8) hx hb dX10_borne_5 lb_8 ?_
  refine aldI (k := 8) (q0 := 2) S hK hP rfl vl_8_15 tn_8 dX10_borne_7 ?_
  obtain ⟨z1, e_z1, h⟩ := obnd_eq h
  refine rdS (pc1 := 11) (rest := []) (st1 := [.long z1]) S (c_X10_estimateOf l D cI cJ cC h4 r4 (r2 8) z1 e_z1) (cw_X10_92 S.2.2.2.2 ⟨Nat.le_of_ble_eq_true rfl, Nat.le_of_ble_eq_true rfl⟩) hK (hP.sub [4] rfl) rfl hl.1 rfl (Nat.le_of_ble_eq_true rfl) ⟨Nat.zero_le _, Nat.zero_le _⟩ rfl rfl dX10_borne_8 ?_
  refine lv_aload_n hx hb dX10_borne_11 rfl (lv_at hl 0 rfl) ?_
  refine gf_X10_7 (v := .ref h2) S hK hP 0 rfl rfl dX10_borne_12 ?_
  refine lv_bipush (v := 9) hx hb dX10_borne_15 lb_9 ?_
  refine aldI (k := 9) (q0 := 2) S hK hP rfl vl_9_15 tn_9 dX10_borne_17 ?_
  refine lv_i2l hx hb dX10_borne_18 rfl ?_
  refine lv_lmul hx hb dX10_borne_19 ?_
  refine lv_lstore (lv' := [(5, .long (z1 * ((r2 9).toInt64))), (0, .ref h0), (1, .ref h4), (2, .int p1), (3, .long p2)]) hx hb dX10_borne_20 hl (by decide) rfl (fun ls hl => ?_)
  refine lv_lconst (v := 0) hx hb dX10_borne_22 rfl ?_
  refine lv_lstore (lv' := [(7, .long 0), (5, .long (z1 * ((r2 9).toInt64))), (0, .ref h0), (1, .ref h4), (2, .int p1), (3, .long p2)]) hx hb dX10_borne_23 hl (by decide) rfl (fun ls hl => ?_)
  refine lv_iconst (v := 0) hx hb dX10_borne_25 li_0 ?_
  refine lv_istore (lv' := [(9, .int 0), (7, .long 0), (5, .long (z1 * ((r2 9).toInt64))), (0, .ref h0), (1, .ref h4), (2, .int p1), (3, .long p2)]) hx hb dX10_borne_26 hl (by decide) rfl (fun ls hl => ?_)
  exact k_X10_borne_b28 S hr hlk hK hP _ p1 p2 (z1 * ((r2 9).toInt64)) 0 0 _ (Nat.lt_succ_self _) h  (lv_sub hl [3, 5, 6, 2, 1, 0] rfl)
abbrev rm_X10_byBuffer : Room := { frames := 1, cells := 0, slots := 0, locals := 22 }
theorem dX10_byBuffer_0 : decode cX10_byBuffer 0 = .ok (.aload_n 0, 1) := by decide +kernel
theorem dX10_byBuffer_1 : decode cX10_byBuffer 1 = .ok (.aload_n 1, 1) := by decide +kernel
theorem dX10_byBuffer_2 : decode cX10_byBuffer 2 = .ok (.iconst 0, 1) := by decide +kernel
theorem dX10_byBuffer_3 : decode cX10_byBuffer 3 = .ok (.invokevirtual 88, 3) := by decide +kernel
theorem dX10_byBuffer_6 : decode cX10_byBuffer 6 = .ok (.lstore_n 2, 1) := by decide +kernel
theorem dX10_byBuffer_7 : decode cX10_byBuffer 7 = .ok (.lload_n 2, 1) := by decide +kernel
theorem dX10_byBuffer_8 : decode cX10_byBuffer 8 = .ok (.aload_n 0, 1) := by decide +kernel
theorem dX10_byBuffer_9 : decode cX10_byBuffer 9 = .ok (.getfield 7, 3) := by decide +kernel
theorem dX10_byBuffer_12 : decode cX10_byBuffer 12 = .ok (.iconst 5, 1) := by decide +kernel
theorem dX10_byBuffer_13 : decode cX10_byBuffer 13 = .ok (.iaload, 1) := by decide +kernel
theorem dX10_byBuffer_14 : decode cX10_byBuffer 14 = .ok (.i2l, 1) := by decide +kernel
theorem dX10_byBuffer_15 : decode cX10_byBuffer 15 = .ok (.lcmp, 1) := by decide +kernel
theorem dX10_byBuffer_16 : decode cX10_byBuffer 16 = .ok (.ifCond .ge 5, 3) := by decide +kernel
theorem dX10_byBuffer_19 : decode cX10_byBuffer 19 = .ok (.lconst 0, 1) := by decide +kernel
theorem dX10_byBuffer_20 : decode cX10_byBuffer 20 = .ok (.lreturn, 1) := by decide +kernel
theorem dX10_byBuffer_21 : decode cX10_byBuffer 21 = .ok (.aload_n 0, 1) := by decide +kernel
theorem dX10_byBuffer_22 : decode cX10_byBuffer 22 = .ok (.getfield 16, 3) := by decide +kernel
theorem dX10_byBuffer_25 : decode cX10_byBuffer 25 = .ok (.iconst 0, 1) := by decide +kernel
theorem dX10_byBuffer_26 : decode cX10_byBuffer 26 = .ok (.iaload, 1) := by decide +kernel
theorem dX10_byBuffer_27 : decode cX10_byBuffer 27 = .ok (.i2l, 1) := by decide +kernel
theorem dX10_byBuffer_28 : decode cX10_byBuffer 28 = .ok (.lconst 1, 1) := by decide +kernel
theorem dX10_byBuffer_29 : decode cX10_byBuffer 29 = .ok (.lsub, 1) := by decide +kernel
theorem dX10_byBuffer_30 : decode cX10_byBuffer 30 = .ok (.lstore 4, 2) := by decide +kernel
theorem dX10_byBuffer_32 : decode cX10_byBuffer 32 = .ok (.lload_n 2, 1) := by decide +kernel
theorem dX10_byBuffer_33 : decode cX10_byBuffer 33 = .ok (.aload_n 0, 1) := by decide +kernel
theorem dX10_byBuffer_34 : decode cX10_byBuffer 34 = .ok (.getfield 7, 3) := by decide +kernel
theorem dX10_byBuffer_37 : decode cX10_byBuffer 37 = .ok (.bipush 6, 2) := by decide +kernel
theorem dX10_byBuffer_39 : decode cX10_byBuffer 39 = .ok (.iaload, 1) := by decide +kernel
theorem dX10_byBuffer_40 : decode cX10_byBuffer 40 = .ok (.i2l, 1) := by decide +kernel
theorem dX10_byBuffer_41 : decode cX10_byBuffer 41 = .ok (.lcmp, 1) := by decide +kernel
theorem dX10_byBuffer_42 : decode cX10_byBuffer 42 = .ok (.ifCond .lt 8, 3) := by decide +kernel
theorem dX10_byBuffer_45 : decode cX10_byBuffer 45 = .ok (.lload 4, 2) := by decide +kernel
theorem dX10_byBuffer_47 : decode cX10_byBuffer 47 = .ok (.goto 31, 3) := by decide +kernel
theorem dX10_byBuffer_50 : decode cX10_byBuffer 50 = .ok (.lload 4, 2) := by decide +kernel
theorem dX10_byBuffer_52 : decode cX10_byBuffer 52 = .ok (.lload_n 2, 1) := by decide +kernel
theorem dX10_byBuffer_53 : decode cX10_byBuffer 53 = .ok (.aload_n 0, 1) := by decide +kernel
theorem dX10_byBuffer_54 : decode cX10_byBuffer 54 = .ok (.getfield 7, 3) := by decide +kernel
theorem dX10_byBuffer_57 : decode cX10_byBuffer 57 = .ok (.iconst 5, 1) := by decide +kernel
theorem dX10_byBuffer_58 : decode cX10_byBuffer 58 = .ok (.iaload, 1) := by decide +kernel
theorem dX10_byBuffer_59 : decode cX10_byBuffer 59 = .ok (.i2l, 1) := by decide +kernel
theorem dX10_byBuffer_60 : decode cX10_byBuffer 60 = .ok (.lsub, 1) := by decide +kernel
theorem dX10_byBuffer_61 : decode cX10_byBuffer 61 = .ok (.lmul, 1) := by decide +kernel
theorem dX10_byBuffer_62 : decode cX10_byBuffer 62 = .ok (.aload_n 0, 1) := by decide +kernel
theorem dX10_byBuffer_63 : decode cX10_byBuffer 63 = .ok (.getfield 7, 3) := by decide +kernel
theorem dX10_byBuffer_66 : decode cX10_byBuffer 66 = .ok (.bipush 6, 2) := by decide +kernel
theorem dX10_byBuffer_68 : decode cX10_byBuffer 68 = .ok (.iaload, 1) := by decide +kernel
theorem dX10_byBuffer_69 : decode cX10_byBuffer 69 = .ok (.aload_n 0, 1) := by decide +kernel
theorem dX10_byBuffer_70 : decode cX10_byBuffer 70 = .ok (.getfield 7, 3) := by decide +kernel
theorem dX10_byBuffer_73 : decode cX10_byBuffer 73 = .ok (.iconst 5, 1) := by decide +kernel
theorem dX10_byBuffer_74 : decode cX10_byBuffer 74 = .ok (.iaload, 1) := by decide +kernel
theorem dX10_byBuffer_75 : decode cX10_byBuffer 75 = .ok (.isub, 1) := by decide +kernel
theorem dX10_byBuffer_76 : decode cX10_byBuffer 76 = .ok (.i2l, 1) := by decide +kernel
theorem dX10_byBuffer_77 : decode cX10_byBuffer 77 = .ok (.ldiv, 1) := by decide +kernel
theorem dX10_byBuffer_78 : decode cX10_byBuffer 78 = .ok (.lreturn, 1) := by decide +kernel
def f_X10_byBuffer (r1 r2 : Nat → Int32) (r3 : Nat → Int64) : Option Int64 :=
  obnd (f_X10_bufferOf r2 r3 0) fun (z1 : Int64) =>
  if ((r2 5).toInt64) ≤ z1 then
    if z1 < ((r2 6).toInt64) then
      grd (nz64 (((r2 6) - (r2 5)).toInt64)) <|
      some (((((r1 0).toInt64) - 1) * (z1 - ((r2 5).toInt64))) / (((r2 6) - (r2 5)).toInt64))
    else
      some (((r1 0).toInt64) - 1)
  else
    some 0
set_option maxHeartbeats 4000000 in
set_option maxRecDepth 100000 in
theorem c_X10_byBuffer (l : Launch) (D : va_G) (cI cJ cC : ClassId) (h0 h1 h2 h3 kthis_rates kthis_lengths kthis_flows kthis_now kthis_trial : Nat) (v0_phases v0_has v0_thrown : Int32) (r1 r2 : Nat → Int32) (r3 : Nat → Int64)  (t0 : Int64) (h : f_X10_byBuffer r1 r2 r3 = some t0) : Met l yX10_byBuffer (Cond.code yX10_byBuffer cX10_byBuffer 6 (some .long) :: TB) rm_X10_byBuffer (PreR D cI cJ cC [(h0, .inr (10, [.ref h2, .ref kthis_rates, .ref h1, .ref kthis_lengths, .ref kthis_flows, .int v0_phases, .ref kthis_now, .ref kthis_trial, .int v0_has, .int v0_thrown])), (h1, .inl (cI, 2, .inl r1)), (h2, .inl (cI, 15, .inl r2)), (h3, .inl (cJ, 760, .inr (.inl r3)))] [.ref h0, .ref h3]) (QR (some (.long t0))) 0 0 free0 := by
  refine metR (own := RX10) (by decide) rfl (Nat.le_of_ble_eq_true rfl) ?_
  intro p e s m below meth c S hr hlk hP hK ls hl
  have hx := S.1
  have hb := S.2.1
  have hl : lv_has ls 6 [(0, .ref h0), (1, .ref h3)] := hl
  refine lv_aload_n hx hb dX10_byBuffer_0 rfl (lv_at hl 0 rfl) ?_
  refine lv_aload_n hx hb dX10_byBuffer_1 rfl (lv_at hl 1 rfl) ?_
  refine lv_iconst (v := 0) hx hb dX10_byBuffer_2 li_0 ?_
  obtain ⟨z1, e_z1, h⟩ := obnd_eq h
  refine rdV (pc1 := 6) (rest := []) (st1 := [.long z1]) S (c_X10_bufferOf l D cI cJ cC h0 h2 h3 kthis_rates h1 kthis_lengths kthis_flows kthis_now kthis_trial v0_phases v0_has v0_thrown r2 r3 0 z1 e_z1) (cw_X10_88 S.2.2.2.2 ⟨Nat.le_of_ble_eq_true rfl, Nat.le_of_ble_eq_true rfl⟩) hK (hP.sub [0, 2, 3] rfl) rfl rfl rfl rfl hl.1 rfl (Nat.le_of_ble_eq_true rfl) ⟨Nat.zero_le _, Nat.zero_le _⟩ rfl rfl dX10_byBuffer_3 ?_
  refine lv_lstore_n (lv' := [(2, .long z1), (0, .ref h0), (1, .ref h3)]) hx hb dX10_byBuffer_6 rfl hl (by decide) rfl (fun ls hl => ?_)
  refine lv_lload_n hx hb dX10_byBuffer_7 rfl (lv_at hl 0 rfl) ?_
  refine lv_aload_n hx hb dX10_byBuffer_8 rfl (lv_at hl 1 rfl) ?_
  refine gf_X10_7 (v := .ref h2) S hK hP 0 rfl rfl dX10_byBuffer_9 ?_
  refine lv_iconst (v := 5) hx hb dX10_byBuffer_12 li_5 ?_
  refine aldI (k := 5) (q0 := 2) S hK hP rfl vl_5_15 tn_5 dX10_byBuffer_13 ?_
  refine lv_i2l hx hb dX10_byBuffer_14 rfl ?_
  refine lc_ge (tgt := 21) hx hb dX10_byBuffer_15 dX10_byBuffer_16 (by decide) (fun c2 => ?_) (fun c2 => ?_)
  · have h := iteP c2 h
    refine lv_aload_n hx hb dX10_byBuffer_21 rfl (lv_at hl 1 rfl) ?_
    refine gf_X10_16 (v := .ref h1) S hK hP 0 rfl rfl dX10_byBuffer_22 ?_
    refine lv_iconst (v := 0) hx hb dX10_byBuffer_25 li_0 ?_
    refine aldI (k := 0) (q0 := 1) S hK hP rfl vl_0_2 tn_0 dX10_byBuffer_26 ?_
    refine lv_i2l hx hb dX10_byBuffer_27 rfl ?_
    refine lv_lconst (v := 1) hx hb dX10_byBuffer_28 rfl ?_
    refine lv_lsub hx hb dX10_byBuffer_29 ?_
    refine lv_lstore (lv' := [(4, .long (((r1 0).toInt64) - 1)), (2, .long z1), (0, .ref h0), (1, .ref h3)]) hx hb dX10_byBuffer_30 hl (by decide) rfl (fun ls hl => ?_)
    refine lv_lload_n hx hb dX10_byBuffer_32 rfl (lv_at hl 1 rfl) ?_
    refine lv_aload_n hx hb dX10_byBuffer_33 rfl (lv_at hl 2 rfl) ?_
    refine gf_X10_7 (v := .ref h2) S hK hP 0 rfl rfl dX10_byBuffer_34 ?_
    refine lv_bipush (v := 6) hx hb dX10_byBuffer_37 lb_6 ?_
    refine aldI (k := 6) (q0 := 2) S hK hP rfl vl_6_15 tn_6 dX10_byBuffer_39 ?_
    refine lv_i2l hx hb dX10_byBuffer_40 rfl ?_
    refine lc_lt (tgt := 50) hx hb dX10_byBuffer_41 dX10_byBuffer_42 (by decide) (fun c3 => ?_) (fun c3 => ?_)
    · have h := iteP c3 h
      refine lv_lload hx hb dX10_byBuffer_50 (lv_at hl 0 rfl) ?_
      refine lv_lload_n hx hb dX10_byBuffer_52 rfl (lv_at hl 1 rfl) ?_
      refine lv_aload_n hx hb dX10_byBuffer_53 rfl (lv_at hl 2 rfl) ?_
      refine gf_X10_7 (v := .ref h2) S hK hP 0 rfl rfl dX10_byBuffer_54 ?_
      refine lv_iconst (v := 5) hx hb dX10_byBuffer_57 li_5 ?_
      refine aldI (k := 5) (q0 := 2) S hK hP rfl vl_5_15 tn_5 dX10_byBuffer_58 ?_
      refine lv_i2l hx hb dX10_byBuffer_59 rfl ?_
      refine lv_lsub hx hb dX10_byBuffer_60 ?_
      refine lv_lmul hx hb dX10_byBuffer_61 ?_
      refine lv_aload_n hx hb dX10_byBuffer_62 rfl (lv_at hl 2 rfl) ?_
      refine gf_X10_7 (v := .ref h2) S hK hP 0 rfl rfl dX10_byBuffer_63 ?_
      refine lv_bipush (v := 6) hx hb dX10_byBuffer_66 lb_6 ?_
      refine aldI (k := 6) (q0 := 2) S hK hP rfl vl_6_15 tn_6 dX10_byBuffer_68 ?_
      refine lv_aload_n hx hb dX10_byBuffer_69 rfl (lv_at hl 2 rfl) ?_
      refine gf_X10_7 (v := .ref h2) S hK hP 0 rfl rfl dX10_byBuffer_70 ?_
      refine lv_iconst (v := 5) hx hb dX10_byBuffer_73 li_5 ?_
      refine aldI (k := 5) (q0 := 2) S hK hP rfl vl_5_15 tn_5 dX10_byBuffer_74 ?_
      refine lv_isub hx hb dX10_byBuffer_75 ?_
      refine lv_i2l hx hb dX10_byBuffer_76 rfl ?_
      obtain ⟨g4, h⟩ := grd_eq h
      refine lv_ldiv hx hb dX10_byBuffer_77 (nz64_ne g4) ?_
      have h := Option.some.inj h
      subst h
      exact rRl S hr hlk dX10_byBuffer_78
    · have h := iteN c3 h
      refine lv_lload hx hb dX10_byBuffer_45 (lv_at hl 0 rfl) ?_
      refine lv_goto (tgt := 78) hx hb dX10_byBuffer_47 (by decide) ?_
      have h := Option.some.inj h
      subst h
      exact rRl S hr hlk dX10_byBuffer_78
  · have h := iteN c2 h
    refine lv_lconst (v := 0) hx hb dX10_byBuffer_19 rfl ?_
    have h := Option.some.inj h
    subst h
    exact rRl S hr hlk dX10_byBuffer_20
abbrev rm_X10_chosen : Room := { frames := 2, cells := 0, slots := 0, locals := 55 }
theorem dX10_chosen_0 : decode cX10_chosen 0 = .ok (.aload_n 1, 1) := by decide +kernel
theorem dX10_chosen_1 : decode cX10_chosen 1 = .ok (.bipush 13, 2) := by decide +kernel
theorem dX10_chosen_3 : decode cX10_chosen 3 = .ok (.laload, 1) := by decide +kernel
theorem dX10_chosen_4 : decode cX10_chosen 4 = .ok (.lconst 0, 1) := by decide +kernel
theorem dX10_chosen_5 : decode cX10_chosen 5 = .ok (.lcmp, 1) := by decide +kernel
theorem dX10_chosen_6 : decode cX10_chosen 6 = .ok (.ifCond .ge 5, 3) := by decide +kernel
theorem dX10_chosen_9 : decode cX10_chosen 9 = .ok (.lconst 0, 1) := by decide +kernel
theorem dX10_chosen_10 : decode cX10_chosen 10 = .ok (.lreturn, 1) := by decide +kernel
theorem dX10_chosen_11 : decode cX10_chosen 11 = .ok (.aload_n 0, 1) := by decide +kernel
theorem dX10_chosen_12 : decode cX10_chosen 12 = .ok (.aload_n 1, 1) := by decide +kernel
theorem dX10_chosen_13 : decode cX10_chosen 13 = .ok (.iconst 0, 1) := by decide +kernel
theorem dX10_chosen_14 : decode cX10_chosen 14 = .ok (.ldc2_w 82, 3) := by decide +kernel
theorem dX10_chosen_17 : decode cX10_chosen 17 = .ok (.invokevirtual 95, 3) := by decide +kernel
theorem dX10_chosen_20 : decode cX10_chosen 20 = .ok (.lstore_n 3, 1) := by decide +kernel
theorem dX10_chosen_21 : decode cX10_chosen 21 = .ok (.aload_n 0, 1) := by decide +kernel
theorem dX10_chosen_22 : decode cX10_chosen 22 = .ok (.aload_n 1, 1) := by decide +kernel
theorem dX10_chosen_23 : decode cX10_chosen 23 = .ok (.invokevirtual 99, 3) := by decide +kernel
theorem dX10_chosen_26 : decode cX10_chosen 26 = .ok (.lstore 5, 2) := by decide +kernel
theorem dX10_chosen_28 : decode cX10_chosen 28 = .ok (.iload_n 2, 1) := by decide +kernel
theorem dX10_chosen_29 : decode cX10_chosen 29 = .ok (.ifCond .ne 7, 3) := by decide +kernel
theorem dX10_chosen_32 : decode cX10_chosen 32 = .ok (.lload_n 3, 1) := by decide +kernel
theorem dX10_chosen_33 : decode cX10_chosen 33 = .ok (.goto 26, 3) := by decide +kernel
theorem dX10_chosen_36 : decode cX10_chosen 36 = .ok (.iload_n 2, 1) := by decide +kernel
theorem dX10_chosen_37 : decode cX10_chosen 37 = .ok (.iconst 1, 1) := by decide +kernel
theorem dX10_chosen_38 : decode cX10_chosen 38 = .ok (.if_icmp .ne 8, 3) := by decide +kernel
theorem dX10_chosen_41 : decode cX10_chosen 41 = .ok (.lload 5, 2) := by decide +kernel
theorem dX10_chosen_43 : decode cX10_chosen 43 = .ok (.goto 16, 3) := by decide +kernel
theorem dX10_chosen_46 : decode cX10_chosen 46 = .ok (.lload_n 3, 1) := by decide +kernel
theorem dX10_chosen_47 : decode cX10_chosen 47 = .ok (.lload 5, 2) := by decide +kernel
theorem dX10_chosen_49 : decode cX10_chosen 49 = .ok (.lcmp, 1) := by decide +kernel
theorem dX10_chosen_50 : decode cX10_chosen 50 = .ok (.ifCond .ge 7, 3) := by decide +kernel
theorem dX10_chosen_53 : decode cX10_chosen 53 = .ok (.lload_n 3, 1) := by decide +kernel
theorem dX10_chosen_54 : decode cX10_chosen 54 = .ok (.goto 5, 3) := by decide +kernel
theorem dX10_chosen_57 : decode cX10_chosen 57 = .ok (.lload 5, 2) := by decide +kernel
theorem dX10_chosen_59 : decode cX10_chosen 59 = .ok (.lstore 7, 2) := by decide +kernel
theorem dX10_chosen_61 : decode cX10_chosen 61 = .ok (.aload_n 1, 1) := by decide +kernel
theorem dX10_chosen_62 : decode cX10_chosen 62 = .ok (.bipush 13, 2) := by decide +kernel
theorem dX10_chosen_64 : decode cX10_chosen 64 = .ok (.laload, 1) := by decide +kernel
theorem dX10_chosen_65 : decode cX10_chosen 65 = .ok (.lstore 9, 2) := by decide +kernel
theorem dX10_chosen_67 : decode cX10_chosen 67 = .ok (.lload 7, 2) := by decide +kernel
theorem dX10_chosen_69 : decode cX10_chosen 69 = .ok (.lload 9, 2) := by decide +kernel
theorem dX10_chosen_71 : decode cX10_chosen 71 = .ok (.lcmp, 1) := by decide +kernel
theorem dX10_chosen_72 : decode cX10_chosen 72 = .ok (.ifCond .gt 8, 3) := by decide +kernel
theorem dX10_chosen_75 : decode cX10_chosen 75 = .ok (.lload 7, 2) := by decide +kernel
theorem dX10_chosen_77 : decode cX10_chosen 77 = .ok (.goto 32, 3) := by decide +kernel
theorem dX10_chosen_80 : decode cX10_chosen 80 = .ok (.aload_n 1, 1) := by decide +kernel
theorem dX10_chosen_81 : decode cX10_chosen 81 = .ok (.iconst 0, 1) := by decide +kernel
theorem dX10_chosen_82 : decode cX10_chosen 82 = .ok (.laload, 1) := by decide +kernel
theorem dX10_chosen_83 : decode cX10_chosen 83 = .ok (.aload_n 1, 1) := by decide +kernel
theorem dX10_chosen_84 : decode cX10_chosen 84 = .ok (.bipush 14, 2) := by decide +kernel
theorem dX10_chosen_86 : decode cX10_chosen 86 = .ok (.laload, 1) := by decide +kernel
theorem dX10_chosen_87 : decode cX10_chosen 87 = .ok (.lsub, 1) := by decide +kernel
theorem dX10_chosen_88 : decode cX10_chosen 88 = .ok (.aload_n 0, 1) := by decide +kernel
theorem dX10_chosen_89 : decode cX10_chosen 89 = .ok (.getfield 7, 3) := by decide +kernel
theorem dX10_chosen_92 : decode cX10_chosen 92 = .ok (.bipush 10, 2) := by decide +kernel
theorem dX10_chosen_94 : decode cX10_chosen 94 = .ok (.iaload, 1) := by decide +kernel
theorem dX10_chosen_95 : decode cX10_chosen 95 = .ok (.i2l, 1) := by decide +kernel
theorem dX10_chosen_96 : decode cX10_chosen 96 = .ok (.lcmp, 1) := by decide +kernel
theorem dX10_chosen_97 : decode cX10_chosen 97 = .ok (.ifCond .lt 10, 3) := by decide +kernel
theorem dX10_chosen_100 : decode cX10_chosen 100 = .ok (.lload 9, 2) := by decide +kernel
theorem dX10_chosen_102 : decode cX10_chosen 102 = .ok (.lconst 1, 1) := by decide +kernel
theorem dX10_chosen_103 : decode cX10_chosen 103 = .ok (.ladd, 1) := by decide +kernel
theorem dX10_chosen_104 : decode cX10_chosen 104 = .ok (.goto 5, 3) := by decide +kernel
theorem dX10_chosen_107 : decode cX10_chosen 107 = .ok (.lload 9, 2) := by decide +kernel
theorem dX10_chosen_109 : decode cX10_chosen 109 = .ok (.lreturn, 1) := by decide +kernel
theorem cw_X10_95 {R : Room} {s : State} {args : Array Value} (hts : ∀ w ∈ TB, w.before args s = true) (hR : rm_X10_borne.frames + 1 ≤ R.frames ∧ 8 + (10 + 11) + rm_X10_borne.locals ≤ R.locals) : CallW R s args RX10 RX10 95 yX10_borne cX10_borne 10 (some .long) (Cond.code yX10_borne cX10_borne 10 (some .long) :: TB) rm_X10_borne 0 0 3 := cwV 3 hts (gV tb1096 tb1097 tb31 tb57 tb1098) rfl rfl rfl ⟨rfl, by decide, by decide, by decide +kernel⟩ hR
theorem cw_X10_99 {R : Room} {s : State} {args : Array Value} (hts : ∀ w ∈ TB, w.before args s = true) (hR : rm_X10_byBuffer.frames + 1 ≤ R.frames ∧ 8 + (6 + 11) + rm_X10_byBuffer.locals ≤ R.locals) : CallW R s args RX10 RX10 99 yX10_byBuffer cX10_byBuffer 6 (some .long) (Cond.code yX10_byBuffer cX10_byBuffer 6 (some .long) :: TB) rm_X10_byBuffer 0 0 1 := cwV 1 hts (gV tb1102 tb1103 tb32 tb57 tb1104) rfl rfl rfl ⟨rfl, by decide, by decide, by decide +kernel⟩ hR
def f_X10_chosen_b59 (r2 : Nat → Int32) (r4 : Nat → Int64) (s0 : Int64) : Option Int64 :=
  if (r4 13) < s0 then
    if ((r4 0) - (r4 14)) < ((r2 10).toInt64) then
      some (r4 13)
    else
      some ((r4 13) + 1)
  else
    some s0
def f_X10_chosen (r1 r2 r3 : Nat → Int32) (r4 : Nat → Int64) (p1 : Int32) : Option Int64 :=
  if 0 ≤ (r4 13) then
    obnd (f_X10_borne r1 r2 r3 r4 0 100) fun (z2 : Int64) =>
    obnd (f_X10_byBuffer r1 r2 r4) fun (z3 : Int64) =>
    if p1 = 0 then
      f_X10_chosen_b59 r2 r4 z2
    else
      if p1 = 1 then
        f_X10_chosen_b59 r2 r4 z3
      else
        if z3 ≤ z2 then
          f_X10_chosen_b59 r2 r4 z3
        else
          f_X10_chosen_b59 r2 r4 z2
  else
    some 0
set_option maxHeartbeats 4000000 in
set_option maxRecDepth 100000 in
theorem k_X10_chosen_b59 {p : Program} {l : Launch} {e : Env} {s : State} {m : MethodId} {args : Array Value} {below : List Frame} {meth : Method} {c : Code} {D : va_G} {cI cJ cC : ClassId} {h0 h1 h2 h3 h4 kthis_lengths kthis_flows kthis_now kthis_trial : Nat} {v0_phases v0_has v0_thrown : Int32} {r1 r2 r3 : Nat → Int32} {r4 : Nat → Int64} {t0 : Int64}(S : CallFix p m c cX10_chosen 11 s args TB RX10) (hr : meth.sig.returnType = (some .long)) (hlk : meth.locks = false) (hK : va_K D vwCl (ty3 cI cJ cC) s) (hP : va_P D vwCl [(h0, .inr (10, [.ref h2, .ref h3, .ref h1, .ref kthis_lengths, .ref kthis_flows, .int v0_phases, .ref kthis_now, .ref kthis_trial, .int v0_has, .int v0_thrown])), (h1, .inl (cI, 2, .inl r1)), (h2, .inl (cI, 15, .inl r2)), (h3, .inl (cI, 12, .inl r3)), (h4, .inl (cJ, 760, .inr (.inl r4)))] s.heap) : ∀ (s0 : Int64) (ls : Array Slot), f_X10_chosen_b59 r2 r4 s0 = some t0 → lv_has ls 11 [(0, .ref h0), (1, .ref h4)] → W p l e rm_X10_chosen s m args below meth c s.heap [] 0 0 (MQ below (QR (some (.long t0))) args s 0 0 free0) (F0 m 59 ls [.long s0]) := by
  have hx := S.1
  have hb := S.2.1
  intro s0 ls h hl
  refine lv_lstore (lv' := [(7, .long s0), (0, .ref h0), (1, .ref h4)]) hx hb dX10_chosen_59 hl (by decide) rfl (fun ls hl => ?_)
  refine lv_aload_n hx hb dX10_chosen_61 rfl (lv_at hl 2 rfl) ?_
  refine lv_bipush (v := 13) hx hb dX10_chosen_62 lb_13 ?_
  refine aldJ (k := 13) (q0 := 4) S hK hP rfl vl_13_760 tn_13 dX10_chosen_64 ?_
  refine lv_lstore (lv' := [(9, .long (r4 13)), (7, .long s0), (0, .ref h0), (1, .ref h4)]) hx hb dX10_chosen_65 hl (by decide) rfl (fun ls hl => ?_)
  refine lv_lload hx hb dX10_chosen_67 (lv_at hl 1 rfl) ?_
  refine lv_lload hx hb dX10_chosen_69 (lv_at hl 0 rfl) ?_
  refine lc_gt (tgt := 80) hx hb dX10_chosen_71 dX10_chosen_72 (by decide) (fun c1 => ?_) (fun c1 => ?_)
  · have h := iteP c1 h
    refine lv_aload_n hx hb dX10_chosen_80 rfl (lv_at hl 3 rfl) ?_
    refine lv_iconst (v := 0) hx hb dX10_chosen_81 li_0 ?_
    refine aldJ (k := 0) (q0 := 4) S hK hP rfl vl_0_760 tn_0 dX10_chosen_82 ?_
    refine lv_aload_n hx hb dX10_chosen_83 rfl (lv_at hl 3 rfl) ?_
    refine lv_bipush (v := 14) hx hb dX10_chosen_84 lb_14 ?_
    refine aldJ (k := 14) (q0 := 4) S hK hP rfl vl_14_760 tn_14 dX10_chosen_86 ?_
    refine lv_lsub hx hb dX10_chosen_87 ?_
    refine lv_aload_n hx hb dX10_chosen_88 rfl (lv_at hl 2 rfl) ?_
    refine gf_X10_7 (v := .ref h2) S hK hP 0 rfl rfl dX10_chosen_89 ?_
    refine lv_bipush (v := 10) hx hb dX10_chosen_92 lb_10 ?_
    refine aldI (k := 10) (q0 := 2) S hK hP rfl vl_10_15 tn_10 dX10_chosen_94 ?_
    refine lv_i2l hx hb dX10_chosen_95 rfl ?_
    refine lc_lt (tgt := 107) hx hb dX10_chosen_96 dX10_chosen_97 (by decide) (fun c2 => ?_) (fun c2 => ?_)
    · have h := iteP c2 h
      refine lv_lload hx hb dX10_chosen_107 (lv_at hl 0 rfl) ?_
      have h := Option.some.inj h
      subst h
      exact rRl S hr hlk dX10_chosen_109
    · have h := iteN c2 h
      refine lv_lload hx hb dX10_chosen_100 (lv_at hl 0 rfl) ?_
      refine lv_lconst (v := 1) hx hb dX10_chosen_102 rfl ?_
      refine lv_ladd hx hb dX10_chosen_103 ?_
      refine lv_goto (tgt := 109) hx hb dX10_chosen_104 (by decide) ?_
      have h := Option.some.inj h
      subst h
      exact rRl S hr hlk dX10_chosen_109
  · have h := iteN c1 h
    refine lv_lload hx hb dX10_chosen_75 (lv_at hl 1 rfl) ?_
    refine lv_goto (tgt := 109) hx hb dX10_chosen_77 (by decide) ?_
    have h := Option.some.inj h
    subst h
    exact rRl S hr hlk dX10_chosen_109
set_option maxHeartbeats 4000000 in
set_option maxRecDepth 100000 in
theorem c_X10_chosen (l : Launch) (D : va_G) (cI cJ cC : ClassId) (h0 h1 h2 h3 h4 kthis_lengths kthis_flows kthis_now kthis_trial : Nat) (v0_phases v0_has v0_thrown : Int32) (r1 r2 r3 : Nat → Int32) (r4 : Nat → Int64) (p1 : Int32) (t0 : Int64) (h : f_X10_chosen r1 r2 r3 r4 p1 = some t0) : Met l yX10_chosen (Cond.code yX10_chosen cX10_chosen 11 (some .long) :: TB) rm_X10_chosen (PreR D cI cJ cC [(h0, .inr (10, [.ref h2, .ref h3, .ref h1, .ref kthis_lengths, .ref kthis_flows, .int v0_phases, .ref kthis_now, .ref kthis_trial, .int v0_has, .int v0_thrown])), (h1, .inl (cI, 2, .inl r1)), (h2, .inl (cI, 15, .inl r2)), (h3, .inl (cI, 12, .inl r3)), (h4, .inl (cJ, 760, .inr (.inl r4)))] [.ref h0, .ref h4, .int p1]) (QR (some (.long t0))) 0 0 free0 := by
  refine metR (own := RX10) (by decide) rfl (Nat.le_of_ble_eq_true rfl) ?_
  intro p e s m below meth c S hr hlk hP hK ls hl
  have hx := S.1
  have hb := S.2.1
  have hl : lv_has ls 11 [(0, .ref h0), (1, .ref h4), (2, .int p1)] := hl
  refine lv_aload_n hx hb dX10_chosen_0 rfl (lv_at hl 1 rfl) ?_
  refine lv_bipush (v := 13) hx hb dX10_chosen_1 lb_13 ?_
  refine aldJ (k := 13) (q0 := 4) S hK hP rfl vl_13_760 tn_13 dX10_chosen_3 ?_
  refine lv_lconst (v := 0) hx hb dX10_chosen_4 rfl ?_
  refine lc_ge (tgt := 11) hx hb dX10_chosen_5 dX10_chosen_6 (by decide) (fun c1 => ?_) (fun c1 => ?_)
  · have h := iteP c1 h
    refine lv_aload_n hx hb dX10_chosen_11 rfl (lv_at hl 0 rfl) ?_
    refine lv_aload_n hx hb dX10_chosen_12 rfl (lv_at hl 1 rfl) ?_
    refine lv_iconst (v := 0) hx hb dX10_chosen_13 li_0 ?_
    refine lv_ldc2 (v := 100) hx hb S.2.2.2.1 (S.2.2.2.2 _ tb1049) dX10_chosen_14 ?_
    obtain ⟨z2, e_z2, h⟩ := obnd_eq h
    refine rdV (pc1 := 20) (rest := []) (st1 := [.long z2]) S (c_X10_borne l D cI cJ cC h0 h1 h2 h3 h4 kthis_lengths kthis_flows kthis_now kthis_trial v0_phases v0_has v0_thrown r1 r2 r3 r4 0 100 z2 e_z2) (cw_X10_95 S.2.2.2.2 ⟨Nat.le_of_ble_eq_true rfl, Nat.le_of_ble_eq_true rfl⟩) hK (hP.sub [0, 1, 2, 3, 4] rfl) rfl rfl rfl rfl hl.1 rfl (Nat.le_of_ble_eq_true rfl) ⟨Nat.zero_le _, Nat.zero_le _⟩ rfl rfl dX10_chosen_17 ?_
    refine lv_lstore_n (lv' := [(3, .long z2), (0, .ref h0), (1, .ref h4), (2, .int p1)]) hx hb dX10_chosen_20 rfl hl (by decide) rfl (fun ls hl => ?_)
    refine lv_aload_n hx hb dX10_chosen_21 rfl (lv_at hl 1 rfl) ?_
    refine lv_aload_n hx hb dX10_chosen_22 rfl (lv_at hl 2 rfl) ?_
    obtain ⟨z3, e_z3, h⟩ := obnd_eq h
    refine rdV (pc1 := 26) (rest := []) (st1 := [.long z3]) S (c_X10_byBuffer l D cI cJ cC h0 h1 h2 h4 h3 kthis_lengths kthis_flows kthis_now kthis_trial v0_phases v0_has v0_thrown r1 r2 r4  z3 e_z3) (cw_X10_99 S.2.2.2.2 ⟨Nat.le_of_ble_eq_true rfl, Nat.le_of_ble_eq_true rfl⟩) hK (hP.sub [0, 1, 2, 4] rfl) rfl rfl rfl rfl hl.1 rfl (Nat.le_of_ble_eq_true rfl) ⟨Nat.zero_le _, Nat.zero_le _⟩ rfl rfl dX10_chosen_23 ?_
    refine lv_lstore (lv' := [(5, .long z3), (3, .long z2), (0, .ref h0), (1, .ref h4), (2, .int p1)]) hx hb dX10_chosen_26 hl (by decide) rfl (fun ls hl => ?_)
    refine lv_iload_n hx hb dX10_chosen_28 rfl (lv_at hl 4 rfl) ?_
    refine lv_if_ne (tgt := 36) hx hb dX10_chosen_29 (by decide) (fun c4 => ?_) (fun c4 => ?_)
    · have h := iteN c4 h
      refine lv_iload_n hx hb dX10_chosen_36 rfl (lv_at hl 4 rfl) ?_
      refine lv_iconst (v := 1) hx hb dX10_chosen_37 li_1 ?_
      refine lv_icmp_ne (tgt := 46) hx hb dX10_chosen_38 (by decide) (fun c5 => ?_) (fun c5 => ?_)
      · have h := iteN c5 h
        refine lv_lload_n hx hb dX10_chosen_46 rfl (lv_at hl 1 rfl) ?_
        refine lv_lload hx hb dX10_chosen_47 (lv_at hl 0 rfl) ?_
        refine lc_ge (tgt := 57) hx hb dX10_chosen_49 dX10_chosen_50 (by decide) (fun c6 => ?_) (fun c6 => ?_)
        · have h := iteP c6 h
          refine lv_lload hx hb dX10_chosen_57 (lv_at hl 0 rfl) ?_
          exact k_X10_chosen_b59 S hr hlk hK hP z3 _ h  (lv_sub hl [2, 3] rfl)
        · have h := iteN c6 h
          refine lv_lload_n hx hb dX10_chosen_53 rfl (lv_at hl 1 rfl) ?_
          refine lv_goto (tgt := 59) hx hb dX10_chosen_54 (by decide) ?_
          exact k_X10_chosen_b59 S hr hlk hK hP z2 _ h  (lv_sub hl [2, 3] rfl)
      · have h := iteP c5 h
        refine lv_lload hx hb dX10_chosen_41 (lv_at hl 0 rfl) ?_
        refine lv_goto (tgt := 59) hx hb dX10_chosen_43 (by decide) ?_
        exact k_X10_chosen_b59 S hr hlk hK hP z3 _ h  (lv_sub hl [2, 3] rfl)
    · have h := iteP c4 h
      refine lv_lload_n hx hb dX10_chosen_32 rfl (lv_at hl 1 rfl) ?_
      refine lv_goto (tgt := 59) hx hb dX10_chosen_33 (by decide) ?_
      exact k_X10_chosen_b59 S hr hlk hK hP z2 _ h  (lv_sub hl [2, 3] rfl)
  · have h := iteN c1 h
    refine lv_lconst (v := 0) hx hb dX10_chosen_9 rfl ?_
    have h := Option.some.inj h
    subst h
    exact rRl S hr hlk dX10_chosen_10
abbrev rm_X10_begins : Room := { frames := 2, cells := 0, slots := 0, locals := 52 }
theorem dX10_begins_0 : decode cX10_begins 0 = .ok (.aload_n 1, 1) := by decide +kernel
theorem dX10_begins_1 : decode cX10_begins 1 = .ok (.iconst 5, 1) := by decide +kernel
theorem dX10_begins_2 : decode cX10_begins 2 = .ok (.lconst 1, 1) := by decide +kernel
theorem dX10_begins_3 : decode cX10_begins 3 = .ok (.lastore, 1) := by decide +kernel
theorem dX10_begins_4 : decode cX10_begins 4 = .ok (.aload_n 1, 1) := by decide +kernel
theorem dX10_begins_5 : decode cX10_begins 5 = .ok (.bipush 6, 2) := by decide +kernel
theorem dX10_begins_7 : decode cX10_begins 7 = .ok (.iload_n 2, 1) := by decide +kernel
theorem dX10_begins_8 : decode cX10_begins 8 = .ok (.i2l, 1) := by decide +kernel
theorem dX10_begins_9 : decode cX10_begins 9 = .ok (.lastore, 1) := by decide +kernel
theorem dX10_begins_10 : decode cX10_begins 10 = .ok (.aload_n 1, 1) := by decide +kernel
theorem dX10_begins_11 : decode cX10_begins 11 = .ok (.bipush 7, 2) := by decide +kernel
theorem dX10_begins_13 : decode cX10_begins 13 = .ok (.lload_n 3, 1) := by decide +kernel
theorem dX10_begins_14 : decode cX10_begins 14 = .ok (.lastore, 1) := by decide +kernel
theorem dX10_begins_15 : decode cX10_begins 15 = .ok (.aload_n 1, 1) := by decide +kernel
theorem dX10_begins_16 : decode cX10_begins 16 = .ok (.bipush 8, 2) := by decide +kernel
theorem dX10_begins_18 : decode cX10_begins 18 = .ok (.lload 5, 2) := by decide +kernel
theorem dX10_begins_20 : decode cX10_begins 20 = .ok (.lastore, 1) := by decide +kernel
theorem dX10_begins_21 : decode cX10_begins 21 = .ok (.aload_n 1, 1) := by decide +kernel
theorem dX10_begins_22 : decode cX10_begins 22 = .ok (.bipush 9, 2) := by decide +kernel
theorem dX10_begins_24 : decode cX10_begins 24 = .ok (.aload_n 0, 1) := by decide +kernel
theorem dX10_begins_25 : decode cX10_begins 25 = .ok (.getfield 7, 3) := by decide +kernel
theorem dX10_begins_28 : decode cX10_begins 28 = .ok (.iconst 2, 1) := by decide +kernel
theorem dX10_begins_29 : decode cX10_begins 29 = .ok (.iaload, 1) := by decide +kernel
theorem dX10_begins_30 : decode cX10_begins 30 = .ok (.i2l, 1) := by decide +kernel
theorem dX10_begins_31 : decode cX10_begins 31 = .ok (.lastore, 1) := by decide +kernel
theorem dX10_begins_32 : decode cX10_begins 32 = .ok (.aload_n 1, 1) := by decide +kernel
theorem dX10_begins_33 : decode cX10_begins 33 = .ok (.bipush 10, 2) := by decide +kernel
theorem dX10_begins_35 : decode cX10_begins 35 = .ok (.lconst 0, 1) := by decide +kernel
theorem dX10_begins_36 : decode cX10_begins 36 = .ok (.lastore, 1) := by decide +kernel
theorem dX10_begins_37 : decode cX10_begins 37 = .ok (.aload_n 1, 1) := by decide +kernel
theorem dX10_begins_38 : decode cX10_begins 38 = .ok (.bipush 11, 2) := by decide +kernel
theorem dX10_begins_40 : decode cX10_begins 40 = .ok (.lconst 0, 1) := by decide +kernel
theorem dX10_begins_41 : decode cX10_begins 41 = .ok (.lastore, 1) := by decide +kernel
theorem dX10_begins_42 : decode cX10_begins 42 = .ok (.aload_n 1, 1) := by decide +kernel
theorem dX10_begins_43 : decode cX10_begins 43 = .ok (.bipush 12, 2) := by decide +kernel
theorem dX10_begins_45 : decode cX10_begins 45 = .ok (.aload_n 0, 1) := by decide +kernel
theorem dX10_begins_46 : decode cX10_begins 46 = .ok (.iload_n 2, 1) := by decide +kernel
theorem dX10_begins_47 : decode cX10_begins 47 = .ok (.lload 5, 2) := by decide +kernel
theorem dX10_begins_49 : decode cX10_begins 49 = .ok (.lload_n 3, 1) := by decide +kernel
theorem dX10_begins_50 : decode cX10_begins 50 = .ok (.invokevirtual 84, 3) := by decide +kernel
theorem dX10_begins_53 : decode cX10_begins 53 = .ok (.lastore, 1) := by decide +kernel
theorem dX10_begins_54 : decode cX10_begins 54 = .ok (.iload_n 2, 1) := by decide +kernel
theorem dX10_begins_55 : decode cX10_begins 55 = .ok (.ifCond .ne 42, 3) := by decide +kernel
theorem dX10_begins_58 : decode cX10_begins 58 = .ok (.aload_n 1, 1) := by decide +kernel
theorem dX10_begins_59 : decode cX10_begins 59 = .ok (.bipush 14, 2) := by decide +kernel
theorem dX10_begins_61 : decode cX10_begins 61 = .ok (.aload_n 1, 1) := by decide +kernel
theorem dX10_begins_62 : decode cX10_begins 62 = .ok (.bipush 13, 2) := by decide +kernel
theorem dX10_begins_64 : decode cX10_begins 64 = .ok (.laload, 1) := by decide +kernel
theorem dX10_begins_65 : decode cX10_begins 65 = .ok (.lconst 0, 1) := by decide +kernel
theorem dX10_begins_66 : decode cX10_begins 66 = .ok (.lcmp, 1) := by decide +kernel
theorem dX10_begins_67 : decode cX10_begins 67 = .ok (.ifCond .lt 19, 3) := by decide +kernel
theorem dX10_begins_70 : decode cX10_begins 70 = .ok (.aload_n 1, 1) := by decide +kernel
theorem dX10_begins_71 : decode cX10_begins 71 = .ok (.bipush 13, 2) := by decide +kernel
theorem dX10_begins_73 : decode cX10_begins 73 = .ok (.laload, 1) := by decide +kernel
theorem dX10_begins_74 : decode cX10_begins 74 = .ok (.lload 5, 2) := by decide +kernel
theorem dX10_begins_76 : decode cX10_begins 76 = .ok (.lcmp, 1) := by decide +kernel
theorem dX10_begins_77 : decode cX10_begins 77 = .ok (.ifCond .eq 9, 3) := by decide +kernel
theorem dX10_begins_80 : decode cX10_begins 80 = .ok (.aload_n 1, 1) := by decide +kernel
theorem dX10_begins_81 : decode cX10_begins 81 = .ok (.iconst 0, 1) := by decide +kernel
theorem dX10_begins_82 : decode cX10_begins 82 = .ok (.laload, 1) := by decide +kernel
theorem dX10_begins_83 : decode cX10_begins 83 = .ok (.goto 7, 3) := by decide +kernel
theorem dX10_begins_86 : decode cX10_begins 86 = .ok (.aload_n 1, 1) := by decide +kernel
theorem dX10_begins_87 : decode cX10_begins 87 = .ok (.bipush 14, 2) := by decide +kernel
theorem dX10_begins_89 : decode cX10_begins 89 = .ok (.laload, 1) := by decide +kernel
theorem dX10_begins_90 : decode cX10_begins 90 = .ok (.lastore, 1) := by decide +kernel
theorem dX10_begins_91 : decode cX10_begins 91 = .ok (.aload_n 1, 1) := by decide +kernel
theorem dX10_begins_92 : decode cX10_begins 92 = .ok (.bipush 13, 2) := by decide +kernel
theorem dX10_begins_94 : decode cX10_begins 94 = .ok (.lload 5, 2) := by decide +kernel
theorem dX10_begins_96 : decode cX10_begins 96 = .ok (.lastore, 1) := by decide +kernel
theorem dX10_begins_97 : decode cX10_begins 97 = .ok (.return_, 1) := by decide +kernel
def f_X10_begins (r1 r2 : Nat → Int32) (r3 : Nat → Int64) (p1 : Int32) (p2 p3 : Int64) : Option (Nat → Int64) :=
  bnd (vp_updL r3 5 1) fun (u1 : Nat → Int64) =>
  bnd (vp_updL u1 6 p1.toInt64) fun (u2 : Nat → Int64) =>
  bnd (vp_updL u2 7 p2) fun (u3 : Nat → Int64) =>
  bnd (vp_updL u3 8 p3) fun (u4 : Nat → Int64) =>
  bnd (vp_updL u4 9 ((r1 2).toInt64)) fun (u5 : Nat → Int64) =>
  bnd (vp_updL u5 10 0) fun (u6 : Nat → Int64) =>
  bnd (vp_updL u6 11 0) fun (u7 : Nat → Int64) =>
  obnd (f_X10_sizeOf r1 r2 p1 p3 p2) fun (z8 : Int64) =>
  bnd (vp_updL u7 12 z8) fun (u9 : Nat → Int64) =>
  if p1 = 0 then
    if (u9 13) < 0 then
      bnd (vp_updL u9 14 (u9 14)) fun (u12 : Nat → Int64) =>
      bnd (vp_updL u12 13 p3) fun (u13 : Nat → Int64) =>
      some u13
    else
      if (u9 13) = p3 then
        bnd (vp_updL u9 14 (u9 14)) fun (u15 : Nat → Int64) =>
        bnd (vp_updL u15 13 p3) fun (u16 : Nat → Int64) =>
        some u16
      else
        bnd (vp_updL u9 14 (u9 0)) fun (u17 : Nat → Int64) =>
        bnd (vp_updL u17 13 p3) fun (u18 : Nat → Int64) =>
        some u18
  else
    some u9
set_option maxHeartbeats 4000000 in
set_option maxRecDepth 100000 in
theorem c_X10_begins (l : Launch) (D : va_G) (cI cJ cC : ClassId) (h0 h1 h2 h3 kthis_ladder kthis_lengths kthis_flows kthis_now kthis_trial : Nat) (v0_phases v0_has v0_thrown : Int32) (r1 r2 : Nat → Int32) (r3 : Nat → Int64) (sz : Nat) (p1 : Int32) (p2 p3 : Int64) (t0 : Nat → Int64) (h : f_X10_begins r1 r2 r3 p1 p2 p3 = some t0) : Met l yX10_begins (Cond.code yX10_begins cX10_begins 7 none :: TB) rm_X10_begins (PreW D cI cJ cC [(h0, .inr (10, [.ref h1, .ref h2, .ref kthis_ladder, .ref kthis_lengths, .ref kthis_flows, .int v0_phases, .ref kthis_now, .ref kthis_trial, .int v0_has, .int v0_thrown])), (h1, .inl (cI, 15, .inl r1)), (h2, .inl (cI, 12, .inl r2)), (h3, .inl (cJ, 760, .inr (.inl r3)))] sz [.ref h0, .ref h3, .int p1, .long p2, .long p3]) (QW none D [(h0, .inr (10, [.ref h1, .ref h2, .ref kthis_ladder, .ref kthis_lengths, .ref kthis_flows, .int v0_phases, .ref kthis_now, .ref kthis_trial, .int v0_has, .int v0_thrown])), (h1, .inl (cI, 15, .inl r1)), (h2, .inl (cI, 12, .inl r2)), (h3, .inl (cJ, 760, .inr (.inl t0)))] (va_A [(h0, .inr (10, [.ref h1, .ref h2, .ref kthis_ladder, .ref kthis_lengths, .ref kthis_flows, .int v0_phases, .ref kthis_now, .ref kthis_trial, .int v0_has, .int v0_thrown])), (h1, .inl (cI, 15, .inl r1)), (h2, .inl (cI, 12, .inl r2)), (h3, .inl (cJ, 760, .inr (.inl r3)))] sz)) 0 0 (va_A [(h0, .inr (10, [.ref h1, .ref h2, .ref kthis_ladder, .ref kthis_lengths, .ref kthis_flows, .int v0_phases, .ref kthis_now, .ref kthis_trial, .int v0_has, .int v0_thrown])), (h1, .inl (cI, 15, .inl r1)), (h2, .inl (cI, 12, .inl r2)), (h3, .inl (cJ, 760, .inr (.inl r3)))] sz) := by
  refine metW (own := RX10) (by decide) rfl (Nat.le_of_ble_eq_true rfl) ?_
  intro p e s m below meth c S hr hlk hP hK A hAe hD hA hS ls hl
  clear hAe
  have hx := S.1
  have hb := S.2.1
  have hl : lv_has ls 7 [(0, .ref h0), (1, .ref h3), (2, .int p1), (3, .long p2), (5, .long p3)] := hl
  refine lv_aload_n hx hb dX10_begins_0 rfl (lv_at hl 1 rfl) ?_
  refine lv_iconst (v := 5) hx hb dX10_begins_1 li_5 ?_
  refine lv_lconst (v := 1) hx hb dX10_begins_2 rfl ?_
  refine astJ (k := 5) (q0 := 3) S hK hP hD hS rfl vl_5_760 tn_5 dX10_begins_3 (fun H locs hP hD hS => ?_)
  have hP : va_P D vwCl [(h0, .inr (10, [.ref h1, .ref h2, .ref kthis_ladder, .ref kthis_lengths, .ref kthis_flows, .int v0_phases, .ref kthis_now, .ref kthis_trial, .int v0_has, .int v0_thrown])), (h1, .inl (cI, 15, .inl r1)), (h2, .inl (cI, 12, .inl r2)), (h3, .inl (cJ, 760, .inr (.inl (vp_updL r3 5 1))))] H := hP
  have hD : va_D A [(h0, .inr (10, [.ref h1, .ref h2, .ref kthis_ladder, .ref kthis_lengths, .ref kthis_flows, .int v0_phases, .ref kthis_now, .ref kthis_trial, .int v0_has, .int v0_thrown])), (h1, .inl (cI, 15, .inl r1)), (h2, .inl (cI, 12, .inl r2)), (h3, .inl (cJ, 760, .inr (.inl (vp_updL r3 5 1))))] := hD
  obtain ⟨u1, e_u1⟩ : ∃ z, z = vp_updL r3 5 1 := ⟨_, rfl⟩
  rw [← e_u1] at hP hD
  have h := bnd_eq e_u1.symm h
  refine lv_aload_n hx hb dX10_begins_4 rfl (lv_at hl 1 rfl) ?_
  refine lv_bipush (v := 6) hx hb dX10_begins_5 lb_6 ?_
  refine lv_iload_n hx hb dX10_begins_7 rfl (lv_at hl 2 rfl) ?_
  refine lv_i2l hx hb dX10_begins_8 rfl ?_
  refine astJ (k := 6) (q0 := 3) S hK hP hD hS rfl vl_6_760 tn_6 dX10_begins_9 (fun H locs hP hD hS => ?_)
  have hP : va_P D vwCl [(h0, .inr (10, [.ref h1, .ref h2, .ref kthis_ladder, .ref kthis_lengths, .ref kthis_flows, .int v0_phases, .ref kthis_now, .ref kthis_trial, .int v0_has, .int v0_thrown])), (h1, .inl (cI, 15, .inl r1)), (h2, .inl (cI, 12, .inl r2)), (h3, .inl (cJ, 760, .inr (.inl (vp_updL u1 6 p1.toInt64))))] H := hP
  have hD : va_D A [(h0, .inr (10, [.ref h1, .ref h2, .ref kthis_ladder, .ref kthis_lengths, .ref kthis_flows, .int v0_phases, .ref kthis_now, .ref kthis_trial, .int v0_has, .int v0_thrown])), (h1, .inl (cI, 15, .inl r1)), (h2, .inl (cI, 12, .inl r2)), (h3, .inl (cJ, 760, .inr (.inl (vp_updL u1 6 p1.toInt64))))] := hD
  obtain ⟨u2, e_u2⟩ : ∃ z, z = vp_updL u1 6 p1.toInt64 := ⟨_, rfl⟩
  rw [← e_u2] at hP hD
  have h := bnd_eq e_u2.symm h
  refine lv_aload_n hx hb dX10_begins_10 rfl (lv_at hl 1 rfl) ?_
  refine lv_bipush (v := 7) hx hb dX10_begins_11 lb_7 ?_
  refine lv_lload_n hx hb dX10_begins_13 rfl (lv_at hl 3 rfl) ?_
  refine astJ (k := 7) (q0 := 3) S hK hP hD hS rfl vl_7_760 tn_7 dX10_begins_14 (fun H locs hP hD hS => ?_)
  have hP : va_P D vwCl [(h0, .inr (10, [.ref h1, .ref h2, .ref kthis_ladder, .ref kthis_lengths, .ref kthis_flows, .int v0_phases, .ref kthis_now, .ref kthis_trial, .int v0_has, .int v0_thrown])), (h1, .inl (cI, 15, .inl r1)), (h2, .inl (cI, 12, .inl r2)), (h3, .inl (cJ, 760, .inr (.inl (vp_updL u2 7 p2))))] H := hP
  have hD : va_D A [(h0, .inr (10, [.ref h1, .ref h2, .ref kthis_ladder, .ref kthis_lengths, .ref kthis_flows, .int v0_phases, .ref kthis_now, .ref kthis_trial, .int v0_has, .int v0_thrown])), (h1, .inl (cI, 15, .inl r1)), (h2, .inl (cI, 12, .inl r2)), (h3, .inl (cJ, 760, .inr (.inl (vp_updL u2 7 p2))))] := hD
  obtain ⟨u3, e_u3⟩ : ∃ z, z = vp_updL u2 7 p2 := ⟨_, rfl⟩
  rw [← e_u3] at hP hD
  have h := bnd_eq e_u3.symm h
  refine lv_aload_n hx hb dX10_begins_15 rfl (lv_at hl 1 rfl) ?_
  refine lv_bipush (v := 8) hx hb dX10_begins_16 lb_8 ?_
  refine lv_lload hx hb dX10_begins_18 (lv_at hl 4 rfl) ?_
  refine astJ (k := 8) (q0 := 3) S hK hP hD hS rfl vl_8_760 tn_8 dX10_begins_20 (fun H locs hP hD hS => ?_)
  have hP : va_P D vwCl [(h0, .inr (10, [.ref h1, .ref h2, .ref kthis_ladder, .ref kthis_lengths, .ref kthis_flows, .int v0_phases, .ref kthis_now, .ref kthis_trial, .int v0_has, .int v0_thrown])), (h1, .inl (cI, 15, .inl r1)), (h2, .inl (cI, 12, .inl r2)), (h3, .inl (cJ, 760, .inr (.inl (vp_updL u3 8 p3))))] H := hP
  have hD : va_D A [(h0, .inr (10, [.ref h1, .ref h2, .ref kthis_ladder, .ref kthis_lengths, .ref kthis_flows, .int v0_phases, .ref kthis_now, .ref kthis_trial, .int v0_has, .int v0_thrown])), (h1, .inl (cI, 15, .inl r1)), (h2, .inl (cI, 12, .inl r2)), (h3, .inl (cJ, 760, .inr (.inl (vp_updL u3 8 p3))))] := hD
  obtain ⟨u4, e_u4⟩ : ∃ z, z = vp_updL u3 8 p3 := ⟨_, rfl⟩
  rw [← e_u4] at hP hD
  have h := bnd_eq e_u4.symm h
  refine lv_aload_n hx hb dX10_begins_21 rfl (lv_at hl 1 rfl) ?_
  refine lv_bipush (v := 9) hx hb dX10_begins_22 lb_9 ?_
  refine lv_aload_n hx hb dX10_begins_24 rfl (lv_at hl 0 rfl) ?_
  refine gf_X10_7 (v := .ref h1) S hK hP 0 rfl rfl dX10_begins_25 ?_
  refine lv_iconst (v := 2) hx hb dX10_begins_28 li_2 ?_
  refine aldI (k := 2) (q0 := 1) S hK hP rfl vl_2_15 tn_2 dX10_begins_29 ?_
  refine lv_i2l hx hb dX10_begins_30 rfl ?_
  refine astJ (k := 9) (q0 := 3) S hK hP hD hS rfl vl_9_760 tn_9 dX10_begins_31 (fun H locs hP hD hS => ?_)
  have hP : va_P D vwCl [(h0, .inr (10, [.ref h1, .ref h2, .ref kthis_ladder, .ref kthis_lengths, .ref kthis_flows, .int v0_phases, .ref kthis_now, .ref kthis_trial, .int v0_has, .int v0_thrown])), (h1, .inl (cI, 15, .inl r1)), (h2, .inl (cI, 12, .inl r2)), (h3, .inl (cJ, 760, .inr (.inl (vp_updL u4 9 ((r1 2).toInt64)))))] H := hP
  have hD : va_D A [(h0, .inr (10, [.ref h1, .ref h2, .ref kthis_ladder, .ref kthis_lengths, .ref kthis_flows, .int v0_phases, .ref kthis_now, .ref kthis_trial, .int v0_has, .int v0_thrown])), (h1, .inl (cI, 15, .inl r1)), (h2, .inl (cI, 12, .inl r2)), (h3, .inl (cJ, 760, .inr (.inl (vp_updL u4 9 ((r1 2).toInt64)))))] := hD
  obtain ⟨u5, e_u5⟩ : ∃ z, z = vp_updL u4 9 ((r1 2).toInt64) := ⟨_, rfl⟩
  rw [← e_u5] at hP hD
  have h := bnd_eq e_u5.symm h
  refine lv_aload_n hx hb dX10_begins_32 rfl (lv_at hl 1 rfl) ?_
  refine lv_bipush (v := 10) hx hb dX10_begins_33 lb_10 ?_
  refine lv_lconst (v := 0) hx hb dX10_begins_35 rfl ?_
  refine astJ (k := 10) (q0 := 3) S hK hP hD hS rfl vl_10_760 tn_10 dX10_begins_36 (fun H locs hP hD hS => ?_)
  have hP : va_P D vwCl [(h0, .inr (10, [.ref h1, .ref h2, .ref kthis_ladder, .ref kthis_lengths, .ref kthis_flows, .int v0_phases, .ref kthis_now, .ref kthis_trial, .int v0_has, .int v0_thrown])), (h1, .inl (cI, 15, .inl r1)), (h2, .inl (cI, 12, .inl r2)), (h3, .inl (cJ, 760, .inr (.inl (vp_updL u5 10 0))))] H := hP
  have hD : va_D A [(h0, .inr (10, [.ref h1, .ref h2, .ref kthis_ladder, .ref kthis_lengths, .ref kthis_flows, .int v0_phases, .ref kthis_now, .ref kthis_trial, .int v0_has, .int v0_thrown])), (h1, .inl (cI, 15, .inl r1)), (h2, .inl (cI, 12, .inl r2)), (h3, .inl (cJ, 760, .inr (.inl (vp_updL u5 10 0))))] := hD
  obtain ⟨u6, e_u6⟩ : ∃ z, z = vp_updL u5 10 0 := ⟨_, rfl⟩
  rw [← e_u6] at hP hD
  have h := bnd_eq e_u6.symm h
  refine lv_aload_n hx hb dX10_begins_37 rfl (lv_at hl 1 rfl) ?_
  refine lv_bipush (v := 11) hx hb dX10_begins_38 lb_11 ?_
  refine lv_lconst (v := 0) hx hb dX10_begins_40 rfl ?_
  refine astJ (k := 11) (q0 := 3) S hK hP hD hS rfl vl_11_760 tn_11 dX10_begins_41 (fun H locs hP hD hS => ?_)
  have hP : va_P D vwCl [(h0, .inr (10, [.ref h1, .ref h2, .ref kthis_ladder, .ref kthis_lengths, .ref kthis_flows, .int v0_phases, .ref kthis_now, .ref kthis_trial, .int v0_has, .int v0_thrown])), (h1, .inl (cI, 15, .inl r1)), (h2, .inl (cI, 12, .inl r2)), (h3, .inl (cJ, 760, .inr (.inl (vp_updL u6 11 0))))] H := hP
  have hD : va_D A [(h0, .inr (10, [.ref h1, .ref h2, .ref kthis_ladder, .ref kthis_lengths, .ref kthis_flows, .int v0_phases, .ref kthis_now, .ref kthis_trial, .int v0_has, .int v0_thrown])), (h1, .inl (cI, 15, .inl r1)), (h2, .inl (cI, 12, .inl r2)), (h3, .inl (cJ, 760, .inr (.inl (vp_updL u6 11 0))))] := hD
  obtain ⟨u7, e_u7⟩ : ∃ z, z = vp_updL u6 11 0 := ⟨_, rfl⟩
  rw [← e_u7] at hP hD
  have h := bnd_eq e_u7.symm h
  refine lv_aload_n hx hb dX10_begins_42 rfl (lv_at hl 1 rfl) ?_
  refine lv_bipush (v := 12) hx hb dX10_begins_43 lb_12 ?_
  refine lv_aload_n hx hb dX10_begins_45 rfl (lv_at hl 0 rfl) ?_
  refine lv_iload_n hx hb dX10_begins_46 rfl (lv_at hl 2 rfl) ?_
  refine lv_lload hx hb dX10_begins_47 (lv_at hl 4 rfl) ?_
  refine lv_lload_n hx hb dX10_begins_49 rfl (lv_at hl 3 rfl) ?_
  obtain ⟨z8, e_z8, h⟩ := obnd_eq h
  refine rdV (pc1 := 53) (rest := [.int 12, .ref h3]) (st1 := [.long z8, .int 12, .ref h3]) S (c_X10_sizeOf l D cI cJ cC h0 h1 h2 kthis_ladder kthis_lengths kthis_flows kthis_now kthis_trial v0_phases v0_has v0_thrown r1 r2 p1 p3 p2 z8 e_z8) (cw_X10_84 S.2.2.2.2 ⟨Nat.le_of_ble_eq_true rfl, Nat.le_of_ble_eq_true rfl⟩) hK (hP.sub [0, 1, 2] rfl) rfl rfl rfl rfl hl.1 rfl (Nat.le_of_ble_eq_true rfl) ⟨Nat.zero_le _, Nat.zero_le _⟩ rfl rfl dX10_begins_50 ?_
  refine astJ (k := 12) (q0 := 3) S hK hP hD hS rfl vl_12_760 tn_12 dX10_begins_53 (fun H locs hP hD hS => ?_)
  have hP : va_P D vwCl [(h0, .inr (10, [.ref h1, .ref h2, .ref kthis_ladder, .ref kthis_lengths, .ref kthis_flows, .int v0_phases, .ref kthis_now, .ref kthis_trial, .int v0_has, .int v0_thrown])), (h1, .inl (cI, 15, .inl r1)), (h2, .inl (cI, 12, .inl r2)), (h3, .inl (cJ, 760, .inr (.inl (vp_updL u7 12 z8))))] H := hP
  have hD : va_D A [(h0, .inr (10, [.ref h1, .ref h2, .ref kthis_ladder, .ref kthis_lengths, .ref kthis_flows, .int v0_phases, .ref kthis_now, .ref kthis_trial, .int v0_has, .int v0_thrown])), (h1, .inl (cI, 15, .inl r1)), (h2, .inl (cI, 12, .inl r2)), (h3, .inl (cJ, 760, .inr (.inl (vp_updL u7 12 z8))))] := hD
  obtain ⟨u9, e_u9⟩ : ∃ z, z = vp_updL u7 12 z8 := ⟨_, rfl⟩
  rw [← e_u9] at hP hD
  have h := bnd_eq e_u9.symm h
  refine lv_iload_n hx hb dX10_begins_54 rfl (lv_at hl 2 rfl) ?_
  refine lv_if_ne (tgt := 97) hx hb dX10_begins_55 (by decide) (fun c10 => ?_) (fun c10 => ?_)
  · have h := iteN c10 h
    have h := Option.some.inj h
    subst h
    exact wRv S hr hlk (hP.sub [0, 1, 2, 3] rfl) (hD.sub [0, 1, 2, 3] (by decide) rfl) hS dX10_begins_97
  · have h := iteP c10 h
    refine lv_aload_n hx hb dX10_begins_58 rfl (lv_at hl 1 rfl) ?_
    refine lv_bipush (v := 14) hx hb dX10_begins_59 lb_14 ?_
    refine lv_aload_n hx hb dX10_begins_61 rfl (lv_at hl 1 rfl) ?_
    refine lv_bipush (v := 13) hx hb dX10_begins_62 lb_13 ?_
    refine aldJ (k := 13) (q0 := 3) S hK hP rfl vl_13_760 tn_13 dX10_begins_64 ?_
    refine lv_lconst (v := 0) hx hb dX10_begins_65 rfl ?_
    refine lc_lt (tgt := 86) hx hb dX10_begins_66 dX10_begins_67 (by decide) (fun c11 => ?_) (fun c11 => ?_)
    · have h := iteP c11 h
      refine lv_aload_n hx hb dX10_begins_86 rfl (lv_at hl 1 rfl) ?_
      refine lv_bipush (v := 14) hx hb dX10_begins_87 lb_14 ?_
      refine aldJ (k := 14) (q0 := 3) S hK hP rfl vl_14_760 tn_14 dX10_begins_89 ?_
      refine astJ (k := 14) (q0 := 3) S hK hP hD hS rfl vl_14_760 tn_14 dX10_begins_90 (fun H locs hP hD hS => ?_)
      have hP : va_P D vwCl [(h0, .inr (10, [.ref h1, .ref h2, .ref kthis_ladder, .ref kthis_lengths, .ref kthis_flows, .int v0_phases, .ref kthis_now, .ref kthis_trial, .int v0_has, .int v0_thrown])), (h1, .inl (cI, 15, .inl r1)), (h2, .inl (cI, 12, .inl r2)), (h3, .inl (cJ, 760, .inr (.inl (vp_updL u9 14 (u9 14)))))] H := hP
      have hD : va_D A [(h0, .inr (10, [.ref h1, .ref h2, .ref kthis_ladder, .ref kthis_lengths, .ref kthis_flows, .int v0_phases, .ref kthis_now, .ref kthis_trial, .int v0_has, .int v0_thrown])), (h1, .inl (cI, 15, .inl r1)), (h2, .inl (cI, 12, .inl r2)), (h3, .inl (cJ, 760, .inr (.inl (vp_updL u9 14 (u9 14)))))] := hD
      obtain ⟨u12, e_u12⟩ : ∃ z, z = vp_updL u9 14 (u9 14) := ⟨_, rfl⟩
      rw [← e_u12] at hP hD
      have h := bnd_eq e_u12.symm h
      refine lv_aload_n hx hb dX10_begins_91 rfl (lv_at hl 1 rfl) ?_
      refine lv_bipush (v := 13) hx hb dX10_begins_92 lb_13 ?_
      refine lv_lload hx hb dX10_begins_94 (lv_at hl 4 rfl) ?_
      refine astJ (k := 13) (q0 := 3) S hK hP hD hS rfl vl_13_760 tn_13 dX10_begins_96 (fun H locs hP hD hS => ?_)
      have hP : va_P D vwCl [(h0, .inr (10, [.ref h1, .ref h2, .ref kthis_ladder, .ref kthis_lengths, .ref kthis_flows, .int v0_phases, .ref kthis_now, .ref kthis_trial, .int v0_has, .int v0_thrown])), (h1, .inl (cI, 15, .inl r1)), (h2, .inl (cI, 12, .inl r2)), (h3, .inl (cJ, 760, .inr (.inl (vp_updL u12 13 p3))))] H := hP
      have hD : va_D A [(h0, .inr (10, [.ref h1, .ref h2, .ref kthis_ladder, .ref kthis_lengths, .ref kthis_flows, .int v0_phases, .ref kthis_now, .ref kthis_trial, .int v0_has, .int v0_thrown])), (h1, .inl (cI, 15, .inl r1)), (h2, .inl (cI, 12, .inl r2)), (h3, .inl (cJ, 760, .inr (.inl (vp_updL u12 13 p3))))] := hD
      obtain ⟨u13, e_u13⟩ : ∃ z, z = vp_updL u12 13 p3 := ⟨_, rfl⟩
      rw [← e_u13] at hP hD
      have h := bnd_eq e_u13.symm h
      have h := Option.some.inj h
      subst h
      exact wRv S hr hlk (hP.sub [0, 1, 2, 3] rfl) (hD.sub [0, 1, 2, 3] (by decide) rfl) hS dX10_begins_97
    · have h := iteN c11 h
      refine lv_aload_n hx hb dX10_begins_70 rfl (lv_at hl 1 rfl) ?_
      refine lv_bipush (v := 13) hx hb dX10_begins_71 lb_13 ?_
      refine aldJ (k := 13) (q0 := 3) S hK hP rfl vl_13_760 tn_13 dX10_begins_73 ?_
      refine lv_lload hx hb dX10_begins_74 (lv_at hl 4 rfl) ?_
      refine lc_eq (tgt := 86) hx hb dX10_begins_76 dX10_begins_77 (by decide) (fun c14 => ?_) (fun c14 => ?_)
      · have h := iteP c14 h
        refine lv_aload_n hx hb dX10_begins_86 rfl (lv_at hl 1 rfl) ?_
        refine lv_bipush (v := 14) hx hb dX10_begins_87 lb_14 ?_
        refine aldJ (k := 14) (q0 := 3) S hK hP rfl vl_14_760 tn_14 dX10_begins_89 ?_
        refine astJ (k := 14) (q0 := 3) S hK hP hD hS rfl vl_14_760 tn_14 dX10_begins_90 (fun H locs hP hD hS => ?_)
        have hP : va_P D vwCl [(h0, .inr (10, [.ref h1, .ref h2, .ref kthis_ladder, .ref kthis_lengths, .ref kthis_flows, .int v0_phases, .ref kthis_now, .ref kthis_trial, .int v0_has, .int v0_thrown])), (h1, .inl (cI, 15, .inl r1)), (h2, .inl (cI, 12, .inl r2)), (h3, .inl (cJ, 760, .inr (.inl (vp_updL u9 14 (u9 14)))))] H := hP
        have hD : va_D A [(h0, .inr (10, [.ref h1, .ref h2, .ref kthis_ladder, .ref kthis_lengths, .ref kthis_flows, .int v0_phases, .ref kthis_now, .ref kthis_trial, .int v0_has, .int v0_thrown])), (h1, .inl (cI, 15, .inl r1)), (h2, .inl (cI, 12, .inl r2)), (h3, .inl (cJ, 760, .inr (.inl (vp_updL u9 14 (u9 14)))))] := hD
        obtain ⟨u15, e_u15⟩ : ∃ z, z = vp_updL u9 14 (u9 14) := ⟨_, rfl⟩
        rw [← e_u15] at hP hD
        have h := bnd_eq e_u15.symm h
        refine lv_aload_n hx hb dX10_begins_91 rfl (lv_at hl 1 rfl) ?_
        refine lv_bipush (v := 13) hx hb dX10_begins_92 lb_13 ?_
        refine lv_lload hx hb dX10_begins_94 (lv_at hl 4 rfl) ?_
        refine astJ (k := 13) (q0 := 3) S hK hP hD hS rfl vl_13_760 tn_13 dX10_begins_96 (fun H locs hP hD hS => ?_)
        have hP : va_P D vwCl [(h0, .inr (10, [.ref h1, .ref h2, .ref kthis_ladder, .ref kthis_lengths, .ref kthis_flows, .int v0_phases, .ref kthis_now, .ref kthis_trial, .int v0_has, .int v0_thrown])), (h1, .inl (cI, 15, .inl r1)), (h2, .inl (cI, 12, .inl r2)), (h3, .inl (cJ, 760, .inr (.inl (vp_updL u15 13 p3))))] H := hP
        have hD : va_D A [(h0, .inr (10, [.ref h1, .ref h2, .ref kthis_ladder, .ref kthis_lengths, .ref kthis_flows, .int v0_phases, .ref kthis_now, .ref kthis_trial, .int v0_has, .int v0_thrown])), (h1, .inl (cI, 15, .inl r1)), (h2, .inl (cI, 12, .inl r2)), (h3, .inl (cJ, 760, .inr (.inl (vp_updL u15 13 p3))))] := hD
        obtain ⟨u16, e_u16⟩ : ∃ z, z = vp_updL u15 13 p3 := ⟨_, rfl⟩
        rw [← e_u16] at hP hD
        have h := bnd_eq e_u16.symm h
        have h := Option.some.inj h
        subst h
        exact wRv S hr hlk (hP.sub [0, 1, 2, 3] rfl) (hD.sub [0, 1, 2, 3] (by decide) rfl) hS dX10_begins_97
      · have h := iteN c14 h
        refine lv_aload_n hx hb dX10_begins_80 rfl (lv_at hl 1 rfl) ?_
        refine lv_iconst (v := 0) hx hb dX10_begins_81 li_0 ?_
        refine aldJ (k := 0) (q0 := 3) S hK hP rfl vl_0_760 tn_0 dX10_begins_82 ?_
        refine lv_goto (tgt := 90) hx hb dX10_begins_83 (by decide) ?_
        refine astJ (k := 14) (q0 := 3) S hK hP hD hS rfl vl_14_760 tn_14 dX10_begins_90 (fun H locs hP hD hS => ?_)
        have hP : va_P D vwCl [(h0, .inr (10, [.ref h1, .ref h2, .ref kthis_ladder, .ref kthis_lengths, .ref kthis_flows, .int v0_phases, .ref kthis_now, .ref kthis_trial, .int v0_has, .int v0_thrown])), (h1, .inl (cI, 15, .inl r1)), (h2, .inl (cI, 12, .inl r2)), (h3, .inl (cJ, 760, .inr (.inl (vp_updL u9 14 (u9 0)))))] H := hP
        have hD : va_D A [(h0, .inr (10, [.ref h1, .ref h2, .ref kthis_ladder, .ref kthis_lengths, .ref kthis_flows, .int v0_phases, .ref kthis_now, .ref kthis_trial, .int v0_has, .int v0_thrown])), (h1, .inl (cI, 15, .inl r1)), (h2, .inl (cI, 12, .inl r2)), (h3, .inl (cJ, 760, .inr (.inl (vp_updL u9 14 (u9 0)))))] := hD
        obtain ⟨u17, e_u17⟩ : ∃ z, z = vp_updL u9 14 (u9 0) := ⟨_, rfl⟩
        rw [← e_u17] at hP hD
        have h := bnd_eq e_u17.symm h
        refine lv_aload_n hx hb dX10_begins_91 rfl (lv_at hl 1 rfl) ?_
        refine lv_bipush (v := 13) hx hb dX10_begins_92 lb_13 ?_
        refine lv_lload hx hb dX10_begins_94 (lv_at hl 4 rfl) ?_
        refine astJ (k := 13) (q0 := 3) S hK hP hD hS rfl vl_13_760 tn_13 dX10_begins_96 (fun H locs hP hD hS => ?_)
        have hP : va_P D vwCl [(h0, .inr (10, [.ref h1, .ref h2, .ref kthis_ladder, .ref kthis_lengths, .ref kthis_flows, .int v0_phases, .ref kthis_now, .ref kthis_trial, .int v0_has, .int v0_thrown])), (h1, .inl (cI, 15, .inl r1)), (h2, .inl (cI, 12, .inl r2)), (h3, .inl (cJ, 760, .inr (.inl (vp_updL u17 13 p3))))] H := hP
        have hD : va_D A [(h0, .inr (10, [.ref h1, .ref h2, .ref kthis_ladder, .ref kthis_lengths, .ref kthis_flows, .int v0_phases, .ref kthis_now, .ref kthis_trial, .int v0_has, .int v0_thrown])), (h1, .inl (cI, 15, .inl r1)), (h2, .inl (cI, 12, .inl r2)), (h3, .inl (cJ, 760, .inr (.inl (vp_updL u17 13 p3))))] := hD
        obtain ⟨u18, e_u18⟩ : ∃ z, z = vp_updL u17 13 p3 := ⟨_, rfl⟩
        rw [← e_u18] at hP hD
        have h := bnd_eq e_u18.symm h
        have h := Option.some.inj h
        subst h
        exact wRv S hr hlk (hP.sub [0, 1, 2, 3] rfl) (hD.sub [0, 1, 2, 3] (by decide) rfl) hS dX10_begins_97
abbrev rm_X10_mayBegin : Room := { frames := 1, cells := 0, slots := 0, locals := 22 }
theorem dX10_mayBegin_0 : decode cX10_mayBegin 0 = .ok (.aload_n 1, 1) := by decide +kernel
theorem dX10_mayBegin_1 : decode cX10_mayBegin 1 = .ok (.iconst 3, 1) := by decide +kernel
theorem dX10_mayBegin_2 : decode cX10_mayBegin 2 = .ok (.iload_n 2, 1) := by decide +kernel
theorem dX10_mayBegin_3 : decode cX10_mayBegin 3 = .ok (.iadd, 1) := by decide +kernel
theorem dX10_mayBegin_4 : decode cX10_mayBegin 4 = .ok (.laload, 1) := by decide +kernel
theorem dX10_mayBegin_5 : decode cX10_mayBegin 5 = .ok (.lstore_n 3, 1) := by decide +kernel
theorem dX10_mayBegin_6 : decode cX10_mayBegin 6 = .ok (.aload_n 0, 1) := by decide +kernel
theorem dX10_mayBegin_7 : decode cX10_mayBegin 7 = .ok (.getfield 16, 3) := by decide +kernel
theorem dX10_mayBegin_10 : decode cX10_mayBegin 10 = .ok (.iload_n 2, 1) := by decide +kernel
theorem dX10_mayBegin_11 : decode cX10_mayBegin 11 = .ok (.iaload, 1) := by decide +kernel
theorem dX10_mayBegin_12 : decode cX10_mayBegin 12 = .ok (.ifCond .le 45, 3) := by decide +kernel
theorem dX10_mayBegin_15 : decode cX10_mayBegin 15 = .ok (.lload_n 3, 1) := by decide +kernel
theorem dX10_mayBegin_16 : decode cX10_mayBegin 16 = .ok (.aload_n 0, 1) := by decide +kernel
theorem dX10_mayBegin_17 : decode cX10_mayBegin 17 = .ok (.getfield 7, 3) := by decide +kernel
theorem dX10_mayBegin_20 : decode cX10_mayBegin 20 = .ok (.iconst 1, 1) := by decide +kernel
theorem dX10_mayBegin_21 : decode cX10_mayBegin 21 = .ok (.iaload, 1) := by decide +kernel
theorem dX10_mayBegin_22 : decode cX10_mayBegin 22 = .ok (.i2l, 1) := by decide +kernel
theorem dX10_mayBegin_23 : decode cX10_mayBegin 23 = .ok (.lcmp, 1) := by decide +kernel
theorem dX10_mayBegin_24 : decode cX10_mayBegin 24 = .ok (.ifCond .ge 33, 3) := by decide +kernel
theorem dX10_mayBegin_27 : decode cX10_mayBegin 27 = .ok (.aload_n 0, 1) := by decide +kernel
theorem dX10_mayBegin_28 : decode cX10_mayBegin 28 = .ok (.aload_n 1, 1) := by decide +kernel
theorem dX10_mayBegin_29 : decode cX10_mayBegin 29 = .ok (.iload_n 2, 1) := by decide +kernel
theorem dX10_mayBegin_30 : decode cX10_mayBegin 30 = .ok (.invokevirtual 88, 3) := by decide +kernel
theorem dX10_mayBegin_33 : decode cX10_mayBegin 33 = .ok (.aload_n 0, 1) := by decide +kernel
theorem dX10_mayBegin_34 : decode cX10_mayBegin 34 = .ok (.getfield 7, 3) := by decide +kernel
theorem dX10_mayBegin_37 : decode cX10_mayBegin 37 = .ok (.iconst 0, 1) := by decide +kernel
theorem dX10_mayBegin_38 : decode cX10_mayBegin 38 = .ok (.iaload, 1) := by decide +kernel
theorem dX10_mayBegin_39 : decode cX10_mayBegin 39 = .ok (.i2l, 1) := by decide +kernel
theorem dX10_mayBegin_40 : decode cX10_mayBegin 40 = .ok (.ladd, 1) := by decide +kernel
theorem dX10_mayBegin_41 : decode cX10_mayBegin 41 = .ok (.aload_n 0, 1) := by decide +kernel
theorem dX10_mayBegin_42 : decode cX10_mayBegin 42 = .ok (.getfield 7, 3) := by decide +kernel
theorem dX10_mayBegin_45 : decode cX10_mayBegin 45 = .ok (.bipush 7, 2) := by decide +kernel
theorem dX10_mayBegin_47 : decode cX10_mayBegin 47 = .ok (.iaload, 1) := by decide +kernel
theorem dX10_mayBegin_48 : decode cX10_mayBegin 48 = .ok (.i2l, 1) := by decide +kernel
theorem dX10_mayBegin_49 : decode cX10_mayBegin 49 = .ok (.lcmp, 1) := by decide +kernel
theorem dX10_mayBegin_50 : decode cX10_mayBegin 50 = .ok (.ifCond .gt 7, 3) := by decide +kernel
theorem dX10_mayBegin_53 : decode cX10_mayBegin 53 = .ok (.iconst 1, 1) := by decide +kernel
theorem dX10_mayBegin_54 : decode cX10_mayBegin 54 = .ok (.goto 4, 3) := by decide +kernel
theorem dX10_mayBegin_57 : decode cX10_mayBegin 57 = .ok (.iconst 0, 1) := by decide +kernel
theorem dX10_mayBegin_58 : decode cX10_mayBegin 58 = .ok (.istore 5, 2) := by decide +kernel
theorem dX10_mayBegin_60 : decode cX10_mayBegin 60 = .ok (.iload 5, 2) := by decide +kernel
theorem dX10_mayBegin_62 : decode cX10_mayBegin 62 = .ok (.ifCond .eq 44, 3) := by decide +kernel
theorem dX10_mayBegin_65 : decode cX10_mayBegin 65 = .ok (.aload_n 0, 1) := by decide +kernel
theorem dX10_mayBegin_66 : decode cX10_mayBegin 66 = .ok (.getfield 7, 3) := by decide +kernel
theorem dX10_mayBegin_69 : decode cX10_mayBegin 69 = .ok (.bipush 13, 2) := by decide +kernel
theorem dX10_mayBegin_71 : decode cX10_mayBegin 71 = .ok (.iaload, 1) := by decide +kernel
theorem dX10_mayBegin_72 : decode cX10_mayBegin 72 = .ok (.ifCond .eq 30, 3) := by decide +kernel
theorem dX10_mayBegin_75 : decode cX10_mayBegin 75 = .ok (.aload_n 1, 1) := by decide +kernel
theorem dX10_mayBegin_76 : decode cX10_mayBegin 76 = .ok (.iconst 0, 1) := by decide +kernel
theorem dX10_mayBegin_77 : decode cX10_mayBegin 77 = .ok (.laload, 1) := by decide +kernel
theorem dX10_mayBegin_78 : decode cX10_mayBegin 78 = .ok (.lload_n 3, 1) := by decide +kernel
theorem dX10_mayBegin_79 : decode cX10_mayBegin 79 = .ok (.lconst 1, 1) := by decide +kernel
theorem dX10_mayBegin_80 : decode cX10_mayBegin 80 = .ok (.ladd, 1) := by decide +kernel
theorem dX10_mayBegin_81 : decode cX10_mayBegin 81 = .ok (.aload_n 0, 1) := by decide +kernel
theorem dX10_mayBegin_82 : decode cX10_mayBegin 82 = .ok (.getfield 7, 3) := by decide +kernel
theorem dX10_mayBegin_85 : decode cX10_mayBegin 85 = .ok (.iconst 0, 1) := by decide +kernel
theorem dX10_mayBegin_86 : decode cX10_mayBegin 86 = .ok (.iaload, 1) := by decide +kernel
theorem dX10_mayBegin_87 : decode cX10_mayBegin 87 = .ok (.i2l, 1) := by decide +kernel
theorem dX10_mayBegin_88 : decode cX10_mayBegin 88 = .ok (.lmul, 1) := by decide +kernel
theorem dX10_mayBegin_89 : decode cX10_mayBegin 89 = .ok (.aload_n 0, 1) := by decide +kernel
theorem dX10_mayBegin_90 : decode cX10_mayBegin 90 = .ok (.getfield 7, 3) := by decide +kernel
theorem dX10_mayBegin_93 : decode cX10_mayBegin 93 = .ok (.bipush 13, 2) := by decide +kernel
theorem dX10_mayBegin_95 : decode cX10_mayBegin 95 = .ok (.iaload, 1) := by decide +kernel
theorem dX10_mayBegin_96 : decode cX10_mayBegin 96 = .ok (.i2l, 1) := by decide +kernel
theorem dX10_mayBegin_97 : decode cX10_mayBegin 97 = .ok (.lsub, 1) := by decide +kernel
theorem dX10_mayBegin_98 : decode cX10_mayBegin 98 = .ok (.lcmp, 1) := by decide +kernel
theorem dX10_mayBegin_99 : decode cX10_mayBegin 99 = .ok (.ifCond .lt 7, 3) := by decide +kernel
theorem dX10_mayBegin_102 : decode cX10_mayBegin 102 = .ok (.iconst 1, 1) := by decide +kernel
theorem dX10_mayBegin_103 : decode cX10_mayBegin 103 = .ok (.goto 4, 3) := by decide +kernel
theorem dX10_mayBegin_106 : decode cX10_mayBegin 106 = .ok (.iconst 0, 1) := by decide +kernel
theorem dX10_mayBegin_107 : decode cX10_mayBegin 107 = .ok (.ireturn, 1) := by decide +kernel
def f_X10_mayBegin_b58 (r2 : Nat → Int32) (r3 : Nat → Int64) (l3 : Int64) (s0 : Int32) : Option Int32 :=
  if s0 = 0 then
    some 0
  else
    if (r2 13) = 0 then
      some 1
    else
      if (r3 0) < (((l3 + 1) * ((r2 0).toInt64)) - ((r2 13).toInt64)) then
        some 0
      else
        some 1
def f_X10_mayBegin_b57 (r2 : Nat → Int32) (r3 : Nat → Int64) (l3 : Int64) : Option Int32 :=
  f_X10_mayBegin_b58 r2 r3 l3 0
def f_X10_mayBegin (r1 r2 : Nat → Int32) (r3 : Nat → Int64) (p1 : Int32) : Option Int32 :=
  grd (vin (3 + p1) 760) <|
  bnd (r3 (3 + p1).toNatClampNeg) fun (z2 : Int64) =>
  grd (vin p1 2) <|
  if (r1 p1.toNatClampNeg) ≤ 0 then
    f_X10_mayBegin_b57 r2 r3 z2
  else
    if ((r2 1).toInt64) ≤ z2 then
      f_X10_mayBegin_b57 r2 r3 z2
    else
      obnd (f_X10_bufferOf r2 r3 p1) fun (z6 : Int64) =>
      if ((r2 7).toInt64) < (z6 + ((r2 0).toInt64)) then
        f_X10_mayBegin_b57 r2 r3 z2
      else
        f_X10_mayBegin_b58 r2 r3 z2 1
set_option maxHeartbeats 4000000 in
set_option maxRecDepth 100000 in
theorem k_X10_mayBegin_b58 {p : Program} {l : Launch} {e : Env} {s : State} {m : MethodId} {args : Array Value} {below : List Frame} {meth : Method} {c : Code} {D : va_G} {cI cJ cC : ClassId} {h0 h1 h2 h3 kthis_rates kthis_lengths kthis_flows kthis_now kthis_trial : Nat} {v0_phases v0_has v0_thrown : Int32} {r1 r2 : Nat → Int32} {r3 : Nat → Int64} {t0 : Int32}(S : CallFix p m c cX10_mayBegin 6 s args TB RX10) (hr : meth.sig.returnType = (some .boolean)) (hlk : meth.locks = false) (hK : va_K D vwCl (ty3 cI cJ cC) s) (hP : va_P D vwCl [(h0, .inr (10, [.ref h2, .ref kthis_rates, .ref h1, .ref kthis_lengths, .ref kthis_flows, .int v0_phases, .ref kthis_now, .ref kthis_trial, .int v0_has, .int v0_thrown])), (h1, .inl (cI, 2, .inl r1)), (h2, .inl (cI, 15, .inl r2)), (h3, .inl (cJ, 760, .inr (.inl r3)))] s.heap) : ∀ (l3 : Int64) (s0 : Int32) (ls : Array Slot), f_X10_mayBegin_b58 r2 r3 l3 s0 = some t0 → lv_has ls 6 [(0, .ref h0), (1, .ref h3), (3, .long l3)] → W p l e rm_X10_mayBegin s m args below meth c s.heap [] 0 0 (MQ below (QR (some (.int t0))) args s 0 0 free0) (F0 m 58 ls [.int s0]) := by
  have hx := S.1
  have hb := S.2.1
  intro l3 s0 ls h hl
  refine lv_istore (lv' := [(5, .int s0), (0, .ref h0), (1, .ref h3), (3, .long l3)]) hx hb dX10_mayBegin_58 hl (by decide) rfl (fun ls hl => ?_)
  refine lv_iload hx hb dX10_mayBegin_60 (lv_at hl 0 rfl) ?_
  refine lv_if_eq (tgt := 106) hx hb dX10_mayBegin_62 (by decide) (fun c1 => ?_) (fun c1 => ?_)
  · have h := iteP c1 h
    refine lv_iconst (v := 0) hx hb dX10_mayBegin_106 li_0 ?_
    have h := Option.some.inj h
    subst h
    exact rRz S hr hlk (by decide) dX10_mayBegin_107
  · have h := iteN c1 h
    refine lv_aload_n hx hb dX10_mayBegin_65 rfl (lv_at hl 1 rfl) ?_
    refine gf_X10_7 (v := .ref h2) S hK hP 0 rfl rfl dX10_mayBegin_66 ?_
    refine lv_bipush (v := 13) hx hb dX10_mayBegin_69 lb_13 ?_
    refine aldI (k := 13) (q0 := 2) S hK hP rfl vl_13_15 tn_13 dX10_mayBegin_71 ?_
    refine lv_if_eq (tgt := 102) hx hb dX10_mayBegin_72 (by decide) (fun c2 => ?_) (fun c2 => ?_)
    · have h := iteP c2 h
      refine lv_iconst (v := 1) hx hb dX10_mayBegin_102 li_1 ?_
      refine lv_goto (tgt := 107) hx hb dX10_mayBegin_103 (by decide) ?_
      have h := Option.some.inj h
      subst h
      exact rRz S hr hlk (by decide) dX10_mayBegin_107
    · have h := iteN c2 h
      refine lv_aload_n hx hb dX10_mayBegin_75 rfl (lv_at hl 2 rfl) ?_
      refine lv_iconst (v := 0) hx hb dX10_mayBegin_76 li_0 ?_
      refine aldJ (k := 0) (q0 := 3) S hK hP rfl vl_0_760 tn_0 dX10_mayBegin_77 ?_
      refine lv_lload_n hx hb dX10_mayBegin_78 rfl (lv_at hl 3 rfl) ?_
      refine lv_lconst (v := 1) hx hb dX10_mayBegin_79 rfl ?_
      refine lv_ladd hx hb dX10_mayBegin_80 ?_
      refine lv_aload_n hx hb dX10_mayBegin_81 rfl (lv_at hl 1 rfl) ?_
      refine gf_X10_7 (v := .ref h2) S hK hP 0 rfl rfl dX10_mayBegin_82 ?_
      refine lv_iconst (v := 0) hx hb dX10_mayBegin_85 li_0 ?_
      refine aldI (k := 0) (q0 := 2) S hK hP rfl vl_0_15 tn_0 dX10_mayBegin_86 ?_
      refine lv_i2l hx hb dX10_mayBegin_87 rfl ?_
      refine lv_lmul hx hb dX10_mayBegin_88 ?_
      refine lv_aload_n hx hb dX10_mayBegin_89 rfl (lv_at hl 1 rfl) ?_
      refine gf_X10_7 (v := .ref h2) S hK hP 0 rfl rfl dX10_mayBegin_90 ?_
      refine lv_bipush (v := 13) hx hb dX10_mayBegin_93 lb_13 ?_
      refine aldI (k := 13) (q0 := 2) S hK hP rfl vl_13_15 tn_13 dX10_mayBegin_95 ?_
      refine lv_i2l hx hb dX10_mayBegin_96 rfl ?_
      refine lv_lsub hx hb dX10_mayBegin_97 ?_
      refine lc_lt (tgt := 106) hx hb dX10_mayBegin_98 dX10_mayBegin_99 (by decide) (fun c3 => ?_) (fun c3 => ?_)
      · have h := iteP c3 h
        refine lv_iconst (v := 0) hx hb dX10_mayBegin_106 li_0 ?_
        have h := Option.some.inj h
        subst h
        exact rRz S hr hlk (by decide) dX10_mayBegin_107
      · have h := iteN c3 h
        refine lv_iconst (v := 1) hx hb dX10_mayBegin_102 li_1 ?_
        refine lv_goto (tgt := 107) hx hb dX10_mayBegin_103 (by decide) ?_
        have h := Option.some.inj h
        subst h
        exact rRz S hr hlk (by decide) dX10_mayBegin_107
set_option maxHeartbeats 4000000 in
set_option maxRecDepth 100000 in
theorem k_X10_mayBegin_b57 {p : Program} {l : Launch} {e : Env} {s : State} {m : MethodId} {args : Array Value} {below : List Frame} {meth : Method} {c : Code} {D : va_G} {cI cJ cC : ClassId} {h0 h1 h2 h3 kthis_rates kthis_lengths kthis_flows kthis_now kthis_trial : Nat} {v0_phases v0_has v0_thrown : Int32} {r1 r2 : Nat → Int32} {r3 : Nat → Int64} {t0 : Int32}(S : CallFix p m c cX10_mayBegin 6 s args TB RX10) (hr : meth.sig.returnType = (some .boolean)) (hlk : meth.locks = false) (hK : va_K D vwCl (ty3 cI cJ cC) s) (hP : va_P D vwCl [(h0, .inr (10, [.ref h2, .ref kthis_rates, .ref h1, .ref kthis_lengths, .ref kthis_flows, .int v0_phases, .ref kthis_now, .ref kthis_trial, .int v0_has, .int v0_thrown])), (h1, .inl (cI, 2, .inl r1)), (h2, .inl (cI, 15, .inl r2)), (h3, .inl (cJ, 760, .inr (.inl r3)))] s.heap) : ∀ (l3 : Int64) (ls : Array Slot), f_X10_mayBegin_b57 r2 r3 l3 = some t0 → lv_has ls 6 [(0, .ref h0), (1, .ref h3), (3, .long l3)] → W p l e rm_X10_mayBegin s m args below meth c s.heap [] 0 0 (MQ below (QR (some (.int t0))) args s 0 0 free0) (F0 m 57 ls []) := by
  have hx := S.1
  have hb := S.2.1
  intro l3 ls h hl
  refine lv_iconst (v := 0) hx hb dX10_mayBegin_57 li_0 ?_
  exact k_X10_mayBegin_b58 S hr hlk hK hP l3 0 _ h  (lv_sub hl [0, 1, 2] rfl)
set_option maxHeartbeats 4000000 in
set_option maxRecDepth 100000 in
theorem c_X10_mayBegin (l : Launch) (D : va_G) (cI cJ cC : ClassId) (h0 h1 h2 h3 kthis_rates kthis_lengths kthis_flows kthis_now kthis_trial : Nat) (v0_phases v0_has v0_thrown : Int32) (r1 r2 : Nat → Int32) (r3 : Nat → Int64) (p1 : Int32) (t0 : Int32) (h : f_X10_mayBegin r1 r2 r3 p1 = some t0) : Met l yX10_mayBegin (Cond.code yX10_mayBegin cX10_mayBegin 6 (some .boolean) :: TB) rm_X10_mayBegin (PreR D cI cJ cC [(h0, .inr (10, [.ref h2, .ref kthis_rates, .ref h1, .ref kthis_lengths, .ref kthis_flows, .int v0_phases, .ref kthis_now, .ref kthis_trial, .int v0_has, .int v0_thrown])), (h1, .inl (cI, 2, .inl r1)), (h2, .inl (cI, 15, .inl r2)), (h3, .inl (cJ, 760, .inr (.inl r3)))] [.ref h0, .ref h3, .int p1]) (QR (some (.int t0))) 0 0 free0 := by
  refine metR (own := RX10) (by decide) rfl (Nat.le_of_ble_eq_true rfl) ?_
  intro p e s m below meth c S hr hlk hP hK ls hl
  have hx := S.1
  have hb := S.2.1
  have hl : lv_has ls 6 [(0, .ref h0), (1, .ref h3), (2, .int p1)] := hl
  refine lv_aload_n hx hb dX10_mayBegin_0 rfl (lv_at hl 1 rfl) ?_
  refine lv_iconst (v := 3) hx hb dX10_mayBegin_1 li_3 ?_
  refine lv_iload_n hx hb dX10_mayBegin_2 rfl (lv_at hl 2 rfl) ?_
  refine lv_iadd hx hb dX10_mayBegin_3 ?_
  obtain ⟨g1, h⟩ := grd_eq h
  refine aldJ (k := (3 + p1).toNatClampNeg) (q0 := 3) S hK hP rfl (vin_in g1) rfl dX10_mayBegin_4 ?_
  refine lv_topl (fun z2 e_z2 => ?_)
  have h := bnd_eq e_z2.symm h
  refine lv_lstore_n (lv' := [(3, .long z2), (0, .ref h0), (1, .ref h3), (2, .int p1)]) hx hb dX10_mayBegin_5 rfl hl (by decide) rfl (fun ls hl => ?_)
  refine lv_aload_n hx hb dX10_mayBegin_6 rfl (lv_at hl 1 rfl) ?_
  refine gf_X10_16 (v := .ref h1) S hK hP 0 rfl rfl dX10_mayBegin_7 ?_
  refine lv_iload_n hx hb dX10_mayBegin_10 rfl (lv_at hl 3 rfl) ?_
  obtain ⟨g3, h⟩ := grd_eq h
  refine aldI (k := p1.toNatClampNeg) (q0 := 1) S hK hP rfl (vin_in g3) rfl dX10_mayBegin_11 ?_
  refine lv_if_le (tgt := 57) hx hb dX10_mayBegin_12 (by decide) (fun c4 => ?_) (fun c4 => ?_)
  · have h := iteP c4 h
    exact k_X10_mayBegin_b57 S hr hlk hK hP z2 _ h  (lv_sub hl [1, 2, 0] rfl)
  · have h := iteN c4 h
    refine lv_lload_n hx hb dX10_mayBegin_15 rfl (lv_at hl 0 rfl) ?_
    refine lv_aload_n hx hb dX10_mayBegin_16 rfl (lv_at hl 1 rfl) ?_
    refine gf_X10_7 (v := .ref h2) S hK hP 0 rfl rfl dX10_mayBegin_17 ?_
    refine lv_iconst (v := 1) hx hb dX10_mayBegin_20 li_1 ?_
    refine aldI (k := 1) (q0 := 2) S hK hP rfl vl_1_15 tn_1 dX10_mayBegin_21 ?_
    refine lv_i2l hx hb dX10_mayBegin_22 rfl ?_
    refine lc_ge (tgt := 57) hx hb dX10_mayBegin_23 dX10_mayBegin_24 (by decide) (fun c5 => ?_) (fun c5 => ?_)
    · have h := iteP c5 h
      exact k_X10_mayBegin_b57 S hr hlk hK hP z2 _ h  (lv_sub hl [1, 2, 0] rfl)
    · have h := iteN c5 h
      refine lv_aload_n hx hb dX10_mayBegin_27 rfl (lv_at hl 1 rfl) ?_
      refine lv_aload_n hx hb dX10_mayBegin_28 rfl (lv_at hl 2 rfl) ?_
      refine lv_iload_n hx hb dX10_mayBegin_29 rfl (lv_at hl 3 rfl) ?_
      obtain ⟨z6, e_z6, h⟩ := obnd_eq h
      refine rdV (pc1 := 33) (rest := []) (st1 := [.long z6]) S (c_X10_bufferOf l D cI cJ cC h0 h2 h3 kthis_rates h1 kthis_lengths kthis_flows kthis_now kthis_trial v0_phases v0_has v0_thrown r2 r3 p1 z6 e_z6) (cw_X10_88 S.2.2.2.2 ⟨Nat.le_of_ble_eq_true rfl, Nat.le_of_ble_eq_true rfl⟩) hK (hP.sub [0, 2, 3] rfl) rfl rfl rfl rfl hl.1 rfl (Nat.le_of_ble_eq_true rfl) ⟨Nat.zero_le _, Nat.zero_le _⟩ rfl rfl dX10_mayBegin_30 ?_
      refine lv_aload_n hx hb dX10_mayBegin_33 rfl (lv_at hl 1 rfl) ?_
      refine gf_X10_7 (v := .ref h2) S hK hP 0 rfl rfl dX10_mayBegin_34 ?_
      refine lv_iconst (v := 0) hx hb dX10_mayBegin_37 li_0 ?_
      refine aldI (k := 0) (q0 := 2) S hK hP rfl vl_0_15 tn_0 dX10_mayBegin_38 ?_
      refine lv_i2l hx hb dX10_mayBegin_39 rfl ?_
      refine lv_ladd hx hb dX10_mayBegin_40 ?_
      refine lv_aload_n hx hb dX10_mayBegin_41 rfl (lv_at hl 1 rfl) ?_
      refine gf_X10_7 (v := .ref h2) S hK hP 0 rfl rfl dX10_mayBegin_42 ?_
      refine lv_bipush (v := 7) hx hb dX10_mayBegin_45 lb_7 ?_
      refine aldI (k := 7) (q0 := 2) S hK hP rfl vl_7_15 tn_7 dX10_mayBegin_47 ?_
      refine lv_i2l hx hb dX10_mayBegin_48 rfl ?_
      refine lc_gt (tgt := 57) hx hb dX10_mayBegin_49 dX10_mayBegin_50 (by decide) (fun c7 => ?_) (fun c7 => ?_)
      · have h := iteP c7 h
        exact k_X10_mayBegin_b57 S hr hlk hK hP z2 _ h  (lv_sub hl [1, 2, 0] rfl)
      · have h := iteN c7 h
        refine lv_iconst (v := 1) hx hb dX10_mayBegin_53 li_1 ?_
        refine lv_goto (tgt := 58) hx hb dX10_mayBegin_54 (by decide) ?_
        exact k_X10_mayBegin_b58 S hr hlk hK hP z2 1 _ h  (lv_sub hl [1, 2, 0] rfl)
abbrev rm_X10_looksForNext : Room := { frames := 3, cells := 0, slots := 0, locals := 85 }
theorem dX10_looksForNext_0 : decode cX10_looksForNext 0 = .ok (.aload_n 0, 1) := by decide +kernel
theorem dX10_looksForNext_1 : decode cX10_looksForNext 1 = .ok (.aload_n 1, 1) := by decide +kernel
theorem dX10_looksForNext_2 : decode cX10_looksForNext 2 = .ok (.iconst 0, 1) := by decide +kernel
theorem dX10_looksForNext_3 : decode cX10_looksForNext 3 = .ok (.invokevirtual 103, 3) := by decide +kernel
theorem dX10_looksForNext_6 : decode cX10_looksForNext 6 = .ok (.istore_n 3, 1) := by decide +kernel
theorem dX10_looksForNext_7 : decode cX10_looksForNext 7 = .ok (.aload_n 0, 1) := by decide +kernel
theorem dX10_looksForNext_8 : decode cX10_looksForNext 8 = .ok (.aload_n 1, 1) := by decide +kernel
theorem dX10_looksForNext_9 : decode cX10_looksForNext 9 = .ok (.iconst 1, 1) := by decide +kernel
theorem dX10_looksForNext_10 : decode cX10_looksForNext 10 = .ok (.invokevirtual 103, 3) := by decide +kernel
theorem dX10_looksForNext_13 : decode cX10_looksForNext 13 = .ok (.istore 4, 2) := by decide +kernel
theorem dX10_looksForNext_15 : decode cX10_looksForNext 15 = .ok (.iload_n 3, 1) := by decide +kernel
theorem dX10_looksForNext_16 : decode cX10_looksForNext 16 = .ok (.ifCond .eq 36, 3) := by decide +kernel
theorem dX10_looksForNext_19 : decode cX10_looksForNext 19 = .ok (.iload 4, 2) := by decide +kernel
theorem dX10_looksForNext_21 : decode cX10_looksForNext 21 = .ok (.ifCond .eq 13, 3) := by decide +kernel
theorem dX10_looksForNext_24 : decode cX10_looksForNext 24 = .ok (.aload_n 1, 1) := by decide +kernel
theorem dX10_looksForNext_25 : decode cX10_looksForNext 25 = .ok (.iconst 3, 1) := by decide +kernel
theorem dX10_looksForNext_26 : decode cX10_looksForNext 26 = .ok (.laload, 1) := by decide +kernel
theorem dX10_looksForNext_27 : decode cX10_looksForNext 27 = .ok (.aload_n 1, 1) := by decide +kernel
theorem dX10_looksForNext_28 : decode cX10_looksForNext 28 = .ok (.iconst 4, 1) := by decide +kernel
theorem dX10_looksForNext_29 : decode cX10_looksForNext 29 = .ok (.laload, 1) := by decide +kernel
theorem dX10_looksForNext_30 : decode cX10_looksForNext 30 = .ok (.lcmp, 1) := by decide +kernel
theorem dX10_looksForNext_31 : decode cX10_looksForNext 31 = .ok (.ifCond .gt 21, 3) := by decide +kernel
theorem dX10_looksForNext_34 : decode cX10_looksForNext 34 = .ok (.aload_n 0, 1) := by decide +kernel
theorem dX10_looksForNext_35 : decode cX10_looksForNext 35 = .ok (.aload_n 1, 1) := by decide +kernel
theorem dX10_looksForNext_36 : decode cX10_looksForNext 36 = .ok (.iconst 0, 1) := by decide +kernel
theorem dX10_looksForNext_37 : decode cX10_looksForNext 37 = .ok (.aload_n 1, 1) := by decide +kernel
theorem dX10_looksForNext_38 : decode cX10_looksForNext 38 = .ok (.iconst 3, 1) := by decide +kernel
theorem dX10_looksForNext_39 : decode cX10_looksForNext 39 = .ok (.laload, 1) := by decide +kernel
theorem dX10_looksForNext_40 : decode cX10_looksForNext 40 = .ok (.aload_n 0, 1) := by decide +kernel
theorem dX10_looksForNext_41 : decode cX10_looksForNext 41 = .ok (.aload_n 1, 1) := by decide +kernel
theorem dX10_looksForNext_42 : decode cX10_looksForNext 42 = .ok (.iload_n 2, 1) := by decide +kernel
theorem dX10_looksForNext_43 : decode cX10_looksForNext 43 = .ok (.invokevirtual 107, 3) := by decide +kernel
theorem dX10_looksForNext_46 : decode cX10_looksForNext 46 = .ok (.invokevirtual 110, 3) := by decide +kernel
theorem dX10_looksForNext_49 : decode cX10_looksForNext 49 = .ok (.goto 26, 3) := by decide +kernel
theorem dX10_looksForNext_52 : decode cX10_looksForNext 52 = .ok (.iload 4, 2) := by decide +kernel
theorem dX10_looksForNext_54 : decode cX10_looksForNext 54 = .ok (.ifCond .eq 21, 3) := by decide +kernel
theorem dX10_looksForNext_57 : decode cX10_looksForNext 57 = .ok (.aload_n 0, 1) := by decide +kernel
theorem dX10_looksForNext_58 : decode cX10_looksForNext 58 = .ok (.aload_n 1, 1) := by decide +kernel
theorem dX10_looksForNext_59 : decode cX10_looksForNext 59 = .ok (.iconst 1, 1) := by decide +kernel
theorem dX10_looksForNext_60 : decode cX10_looksForNext 60 = .ok (.aload_n 1, 1) := by decide +kernel
theorem dX10_looksForNext_61 : decode cX10_looksForNext 61 = .ok (.iconst 4, 1) := by decide +kernel
theorem dX10_looksForNext_62 : decode cX10_looksForNext 62 = .ok (.laload, 1) := by decide +kernel
theorem dX10_looksForNext_63 : decode cX10_looksForNext 63 = .ok (.aload_n 0, 1) := by decide +kernel
theorem dX10_looksForNext_64 : decode cX10_looksForNext 64 = .ok (.aload_n 1, 1) := by decide +kernel
theorem dX10_looksForNext_65 : decode cX10_looksForNext 65 = .ok (.iconst 1, 1) := by decide +kernel
theorem dX10_looksForNext_66 : decode cX10_looksForNext 66 = .ok (.ldc2_w 114, 3) := by decide +kernel
theorem dX10_looksForNext_69 : decode cX10_looksForNext 69 = .ok (.invokevirtual 95, 3) := by decide +kernel
theorem dX10_looksForNext_72 : decode cX10_looksForNext 72 = .ok (.invokevirtual 110, 3) := by decide +kernel
theorem dX10_looksForNext_75 : decode cX10_looksForNext 75 = .ok (.return_, 1) := by decide +kernel
theorem cw_X10_103 {R : Room} {s : State} {args : Array Value} (hts : ∀ w ∈ TB, w.before args s = true) (hR : rm_X10_mayBegin.frames + 1 ≤ R.frames ∧ 8 + (6 + 11) + rm_X10_mayBegin.locals ≤ R.locals) : CallW R s args RX10 RX10 103 yX10_mayBegin cX10_mayBegin 6 (some .boolean) (Cond.code yX10_mayBegin cX10_mayBegin 6 (some .boolean) :: TB) rm_X10_mayBegin 0 0 2 := cwV 2 hts (gV tb1087 tb1088 tb28 tb57 tb1089) rfl rfl rfl ⟨rfl, by decide, by decide, by decide +kernel⟩ hR
theorem cw_X10_110 {R : Room} {s : State} {args : Array Value} (hts : ∀ w ∈ TB, w.before args s = true) (hR : rm_X10_begins.frames + 1 ≤ R.frames ∧ 8 + (7 + 11) + rm_X10_begins.locals ≤ R.locals) : CallW R s args RX10 RX10 110 yX10_begins cX10_begins 7 none (Cond.code yX10_begins cX10_begins 7 none :: TB) rm_X10_begins 0 0 4 := cwV 4 hts (gV tb1105 tb1106 tb33 tb57 tb1107) rfl rfl rfl ⟨rfl, by decide, by decide, by decide +kernel⟩ hR
theorem cw_X10_107 {R : Room} {s : State} {args : Array Value} (hts : ∀ w ∈ TB, w.before args s = true) (hR : rm_X10_chosen.frames + 1 ≤ R.frames ∧ 8 + (11 + 11) + rm_X10_chosen.locals ≤ R.locals) : CallW R s args RX10 RX10 107 yX10_chosen cX10_chosen 11 (some .long) (Cond.code yX10_chosen cX10_chosen 11 (some .long) :: TB) rm_X10_chosen 0 0 2 := cwV 2 hts (gV tb1093 tb1094 tb30 tb57 tb1095) rfl rfl rfl ⟨rfl, by decide, by decide, by decide +kernel⟩ hR
def f_X10_looksForNext (r1 r2 r3 : Nat → Int32) (r4 : Nat → Int64) (p1 : Int32) : Option (Nat → Int64) :=
  obnd (f_X10_mayBegin r1 r2 r4 0) fun (y1 : Int32) =>
  obnd (f_X10_mayBegin r1 r2 r4 1) fun (y2 : Int32) =>
  if y1 = 0 then
    if y2 = 0 then
      some r4
    else
      obnd (f_X10_borne r1 r2 r3 r4 1 500) fun (z5 : Int64) =>
      obnd (f_X10_begins r2 r3 r4 1 (r4 4) z5) fun (u6 : Nat → Int64) =>
      some u6
  else
    if y2 = 0 then
      obnd (f_X10_chosen r1 r2 r3 r4 p1) fun (z8 : Int64) =>
      obnd (f_X10_begins r2 r3 r4 0 (r4 3) z8) fun (u9 : Nat → Int64) =>
      some u9
    else
      if (r4 4) < (r4 3) then
        if y2 = 0 then
          some r4
        else
          obnd (f_X10_borne r1 r2 r3 r4 1 500) fun (z12 : Int64) =>
          obnd (f_X10_begins r2 r3 r4 1 (r4 4) z12) fun (u13 : Nat → Int64) =>
          some u13
      else
        obnd (f_X10_chosen r1 r2 r3 r4 p1) fun (z14 : Int64) =>
        obnd (f_X10_begins r2 r3 r4 0 (r4 3) z14) fun (u15 : Nat → Int64) =>
        some u15
set_option maxHeartbeats 4000000 in
set_option maxRecDepth 100000 in
theorem c_X10_looksForNext (l : Launch) (D : va_G) (cI cJ cC : ClassId) (h0 h1 h2 h3 h4 kthis_lengths kthis_flows kthis_now kthis_trial : Nat) (v0_phases v0_has v0_thrown : Int32) (r1 r2 r3 : Nat → Int32) (r4 : Nat → Int64) (sz : Nat) (p1 : Int32) (t0 : Nat → Int64) (h : f_X10_looksForNext r1 r2 r3 r4 p1 = some t0) : Met l yX10_looksForNext (Cond.code yX10_looksForNext cX10_looksForNext 5 none :: TB) rm_X10_looksForNext (PreW D cI cJ cC [(h0, .inr (10, [.ref h2, .ref h3, .ref h1, .ref kthis_lengths, .ref kthis_flows, .int v0_phases, .ref kthis_now, .ref kthis_trial, .int v0_has, .int v0_thrown])), (h1, .inl (cI, 2, .inl r1)), (h2, .inl (cI, 15, .inl r2)), (h3, .inl (cI, 12, .inl r3)), (h4, .inl (cJ, 760, .inr (.inl r4)))] sz [.ref h0, .ref h4, .int p1]) (QW none D [(h0, .inr (10, [.ref h2, .ref h3, .ref h1, .ref kthis_lengths, .ref kthis_flows, .int v0_phases, .ref kthis_now, .ref kthis_trial, .int v0_has, .int v0_thrown])), (h1, .inl (cI, 2, .inl r1)), (h2, .inl (cI, 15, .inl r2)), (h3, .inl (cI, 12, .inl r3)), (h4, .inl (cJ, 760, .inr (.inl t0)))] (va_A [(h0, .inr (10, [.ref h2, .ref h3, .ref h1, .ref kthis_lengths, .ref kthis_flows, .int v0_phases, .ref kthis_now, .ref kthis_trial, .int v0_has, .int v0_thrown])), (h1, .inl (cI, 2, .inl r1)), (h2, .inl (cI, 15, .inl r2)), (h3, .inl (cI, 12, .inl r3)), (h4, .inl (cJ, 760, .inr (.inl r4)))] sz)) 0 0 (va_A [(h0, .inr (10, [.ref h2, .ref h3, .ref h1, .ref kthis_lengths, .ref kthis_flows, .int v0_phases, .ref kthis_now, .ref kthis_trial, .int v0_has, .int v0_thrown])), (h1, .inl (cI, 2, .inl r1)), (h2, .inl (cI, 15, .inl r2)), (h3, .inl (cI, 12, .inl r3)), (h4, .inl (cJ, 760, .inr (.inl r4)))] sz) := by
  refine metW (own := RX10) (by decide) rfl (Nat.le_of_ble_eq_true rfl) ?_
  intro p e s m below meth c S hr hlk hP hK A hAe hD hA hS ls hl
  clear hAe
  have hx := S.1
  have hb := S.2.1
  have hl : lv_has ls 5 [(0, .ref h0), (1, .ref h4), (2, .int p1)] := hl
  refine lv_aload_n hx hb dX10_looksForNext_0 rfl (lv_at hl 0 rfl) ?_
  refine lv_aload_n hx hb dX10_looksForNext_1 rfl (lv_at hl 1 rfl) ?_
  refine lv_iconst (v := 0) hx hb dX10_looksForNext_2 li_0 ?_
  obtain ⟨y1, e_y1, h⟩ := obnd_eq h
  refine rdV (pc1 := 6) (rest := []) (st1 := [.int y1]) S (c_X10_mayBegin l D cI cJ cC h0 h1 h2 h4 h3 kthis_lengths kthis_flows kthis_now kthis_trial v0_phases v0_has v0_thrown r1 r2 r4 0 y1 e_y1) (cw_X10_103 S.2.2.2.2 ⟨Nat.le_of_ble_eq_true rfl, Nat.le_of_ble_eq_true rfl⟩) hK (hP.sub [0, 1, 2, 4] rfl) rfl rfl rfl rfl hl.1 rfl (Nat.le_of_ble_eq_true rfl) ⟨Nat.zero_le _, Nat.zero_le _⟩ rfl rfl dX10_looksForNext_3 ?_
  refine lv_istore_n (lv' := [(3, .int y1), (0, .ref h0), (1, .ref h4), (2, .int p1)]) hx hb dX10_looksForNext_6 rfl hl (by decide) rfl (fun ls hl => ?_)
  refine lv_aload_n hx hb dX10_looksForNext_7 rfl (lv_at hl 1 rfl) ?_
  refine lv_aload_n hx hb dX10_looksForNext_8 rfl (lv_at hl 2 rfl) ?_
  refine lv_iconst (v := 1) hx hb dX10_looksForNext_9 li_1 ?_
  obtain ⟨y2, e_y2, h⟩ := obnd_eq h
  refine rdV (pc1 := 13) (rest := []) (st1 := [.int y2]) S (c_X10_mayBegin l D cI cJ cC h0 h1 h2 h4 h3 kthis_lengths kthis_flows kthis_now kthis_trial v0_phases v0_has v0_thrown r1 r2 r4 1 y2 e_y2) (cw_X10_103 S.2.2.2.2 ⟨Nat.le_of_ble_eq_true rfl, Nat.le_of_ble_eq_true rfl⟩) hK (hP.sub [0, 1, 2, 4] rfl) rfl rfl rfl rfl hl.1 rfl (Nat.le_of_ble_eq_true rfl) ⟨Nat.zero_le _, Nat.zero_le _⟩ rfl rfl dX10_looksForNext_10 ?_
  refine lv_istore (lv' := [(4, .int y2), (3, .int y1), (0, .ref h0), (1, .ref h4), (2, .int p1)]) hx hb dX10_looksForNext_13 hl (by decide) rfl (fun ls hl => ?_)
  refine lv_iload_n hx hb dX10_looksForNext_15 rfl (lv_at hl 1 rfl) ?_
  refine lv_if_eq (tgt := 52) hx hb dX10_looksForNext_16 (by decide) (fun c3 => ?_) (fun c3 => ?_)
  · have h := iteP c3 h
    refine lv_iload hx hb dX10_looksForNext_52 (lv_at hl 0 rfl) ?_
    refine lv_if_eq (tgt := 75) hx hb dX10_looksForNext_54 (by decide) (fun c4 => ?_) (fun c4 => ?_)
    · have h := iteP c4 h
      have h := Option.some.inj h
      subst h
      exact wRv S hr hlk (hP.sub [0, 1, 2, 3, 4] rfl) (hD.sub [0, 1, 2, 3, 4] (by decide) rfl) hS dX10_looksForNext_75
    · have h := iteN c4 h
      refine lv_aload_n hx hb dX10_looksForNext_57 rfl (lv_at hl 2 rfl) ?_
      refine lv_aload_n hx hb dX10_looksForNext_58 rfl (lv_at hl 3 rfl) ?_
      refine lv_iconst (v := 1) hx hb dX10_looksForNext_59 li_1 ?_
      refine lv_aload_n hx hb dX10_looksForNext_60 rfl (lv_at hl 3 rfl) ?_
      refine lv_iconst (v := 4) hx hb dX10_looksForNext_61 li_4 ?_
      refine aldJ (k := 4) (q0 := 4) S hK hP rfl vl_4_760 tn_4 dX10_looksForNext_62 ?_
      refine lv_aload_n hx hb dX10_looksForNext_63 rfl (lv_at hl 2 rfl) ?_
      refine lv_aload_n hx hb dX10_looksForNext_64 rfl (lv_at hl 3 rfl) ?_
      refine lv_iconst (v := 1) hx hb dX10_looksForNext_65 li_1 ?_
      refine lv_ldc2 (v := 500) hx hb S.2.2.2.1 (S.2.2.2.2 _ tb1108) dX10_looksForNext_66 ?_
      obtain ⟨z5, e_z5, h⟩ := obnd_eq h
      refine rdV (pc1 := 72) (rest := [.long (r4 4), .int 1, .ref h4, .ref h0]) (st1 := [.long z5, .long (r4 4), .int 1, .ref h4, .ref h0]) S (c_X10_borne l D cI cJ cC h0 h1 h2 h3 h4 kthis_lengths kthis_flows kthis_now kthis_trial v0_phases v0_has v0_thrown r1 r2 r3 r4 1 500 z5 e_z5) (cw_X10_95 S.2.2.2.2 ⟨Nat.le_of_ble_eq_true rfl, Nat.le_of_ble_eq_true rfl⟩) hK (hP.sub [0, 1, 2, 3, 4] rfl) rfl rfl rfl rfl hl.1 rfl (Nat.le_of_ble_eq_true rfl) ⟨Nat.zero_le _, Nat.zero_le _⟩ rfl rfl dX10_looksForNext_69 ?_
      obtain ⟨u6, e_u6, h⟩ := obnd_eq h
      refine wrV (pc1 := 75) (rest := []) (st1 := []) (wr := [(h1, .inl (cI, 2, .inl r1))]) S (c_X10_begins l D cI cJ cC h0 h2 h3 h4 h1 kthis_lengths kthis_flows kthis_now kthis_trial v0_phases v0_has v0_thrown r2 r3 r4 s.heap.size 1 (r4 4) z5 u6 e_u6) (cw_X10_110 S.2.2.2.2 ⟨Nat.le_of_ble_eq_true rfl, Nat.le_of_ble_eq_true rfl⟩) hK hP hD hS hA [0, 2, 3, 4] [1] rfl rfl rfl (by decide) (by decide) (by decide) rfl rfl rfl rfl hl.1 rfl (Nat.le_of_ble_eq_true rfl) ⟨Nat.zero_le _, Nat.zero_le _⟩ rfl rfl dX10_looksForNext_72 (fun H locs hP hD hS => ?_)
      have hP : va_P D vwCl [(h1, .inl (cI, 2, .inl r1)), (h0, .inr (10, [.ref h2, .ref h3, .ref h1, .ref kthis_lengths, .ref kthis_flows, .int v0_phases, .ref kthis_now, .ref kthis_trial, .int v0_has, .int v0_thrown])), (h2, .inl (cI, 15, .inl r2)), (h3, .inl (cI, 12, .inl r3)), (h4, .inl (cJ, 760, .inr (.inl u6)))] H := hP
      have hD : va_D A [(h1, .inl (cI, 2, .inl r1)), (h0, .inr (10, [.ref h2, .ref h3, .ref h1, .ref kthis_lengths, .ref kthis_flows, .int v0_phases, .ref kthis_now, .ref kthis_trial, .int v0_has, .int v0_thrown])), (h2, .inl (cI, 15, .inl r2)), (h3, .inl (cI, 12, .inl r3)), (h4, .inl (cJ, 760, .inr (.inl u6)))] := hD
      have h := Option.some.inj h
      subst h
      exact wRv S hr hlk (hP.sub [1, 0, 2, 3, 4] rfl) (hD.sub [1, 0, 2, 3, 4] (by decide) rfl) hS dX10_looksForNext_75
  · have h := iteN c3 h
    refine lv_iload hx hb dX10_looksForNext_19 (lv_at hl 0 rfl) ?_
    refine lv_if_eq (tgt := 34) hx hb dX10_looksForNext_21 (by decide) (fun c7 => ?_) (fun c7 => ?_)
    · have h := iteP c7 h
      refine lv_aload_n hx hb dX10_looksForNext_34 rfl (lv_at hl 2 rfl) ?_
      refine lv_aload_n hx hb dX10_looksForNext_35 rfl (lv_at hl 3 rfl) ?_
      refine lv_iconst (v := 0) hx hb dX10_looksForNext_36 li_0 ?_
      refine lv_aload_n hx hb dX10_looksForNext_37 rfl (lv_at hl 3 rfl) ?_
      refine lv_iconst (v := 3) hx hb dX10_looksForNext_38 li_3 ?_
      refine aldJ (k := 3) (q0 := 4) S hK hP rfl vl_3_760 tn_3 dX10_looksForNext_39 ?_
      refine lv_aload_n hx hb dX10_looksForNext_40 rfl (lv_at hl 2 rfl) ?_
      refine lv_aload_n hx hb dX10_looksForNext_41 rfl (lv_at hl 3 rfl) ?_
      refine lv_iload_n hx hb dX10_looksForNext_42 rfl (lv_at hl 4 rfl) ?_
      obtain ⟨z8, e_z8, h⟩ := obnd_eq h
      refine rdV (pc1 := 46) (rest := [.long (r4 3), .int 0, .ref h4, .ref h0]) (st1 := [.long z8, .long (r4 3), .int 0, .ref h4, .ref h0]) S (c_X10_chosen l D cI cJ cC h0 h1 h2 h3 h4 kthis_lengths kthis_flows kthis_now kthis_trial v0_phases v0_has v0_thrown r1 r2 r3 r4 p1 z8 e_z8) (cw_X10_107 S.2.2.2.2 ⟨Nat.le_of_ble_eq_true rfl, Nat.le_of_ble_eq_true rfl⟩) hK (hP.sub [0, 1, 2, 3, 4] rfl) rfl rfl rfl rfl hl.1 rfl (Nat.le_of_ble_eq_true rfl) ⟨Nat.zero_le _, Nat.zero_le _⟩ rfl rfl dX10_looksForNext_43 ?_
      obtain ⟨u9, e_u9, h⟩ := obnd_eq h
      refine wrV (pc1 := 49) (rest := []) (st1 := []) (wr := [(h1, .inl (cI, 2, .inl r1))]) S (c_X10_begins l D cI cJ cC h0 h2 h3 h4 h1 kthis_lengths kthis_flows kthis_now kthis_trial v0_phases v0_has v0_thrown r2 r3 r4 s.heap.size 0 (r4 3) z8 u9 e_u9) (cw_X10_110 S.2.2.2.2 ⟨Nat.le_of_ble_eq_true rfl, Nat.le_of_ble_eq_true rfl⟩) hK hP hD hS hA [0, 2, 3, 4] [1] rfl rfl rfl (by decide) (by decide) (by decide) rfl rfl rfl rfl hl.1 rfl (Nat.le_of_ble_eq_true rfl) ⟨Nat.zero_le _, Nat.zero_le _⟩ rfl rfl dX10_looksForNext_46 (fun H locs hP hD hS => ?_)
      have hP : va_P D vwCl [(h1, .inl (cI, 2, .inl r1)), (h0, .inr (10, [.ref h2, .ref h3, .ref h1, .ref kthis_lengths, .ref kthis_flows, .int v0_phases, .ref kthis_now, .ref kthis_trial, .int v0_has, .int v0_thrown])), (h2, .inl (cI, 15, .inl r2)), (h3, .inl (cI, 12, .inl r3)), (h4, .inl (cJ, 760, .inr (.inl u9)))] H := hP
      have hD : va_D A [(h1, .inl (cI, 2, .inl r1)), (h0, .inr (10, [.ref h2, .ref h3, .ref h1, .ref kthis_lengths, .ref kthis_flows, .int v0_phases, .ref kthis_now, .ref kthis_trial, .int v0_has, .int v0_thrown])), (h2, .inl (cI, 15, .inl r2)), (h3, .inl (cI, 12, .inl r3)), (h4, .inl (cJ, 760, .inr (.inl u9)))] := hD
      refine lv_goto (tgt := 75) hx hb dX10_looksForNext_49 (by decide) ?_
      have h := Option.some.inj h
      subst h
      exact wRv S hr hlk (hP.sub [1, 0, 2, 3, 4] rfl) (hD.sub [1, 0, 2, 3, 4] (by decide) rfl) hS dX10_looksForNext_75
    · have h := iteN c7 h
      refine lv_aload_n hx hb dX10_looksForNext_24 rfl (lv_at hl 3 rfl) ?_
      refine lv_iconst (v := 3) hx hb dX10_looksForNext_25 li_3 ?_
      refine aldJ (k := 3) (q0 := 4) S hK hP rfl vl_3_760 tn_3 dX10_looksForNext_26 ?_
      refine lv_aload_n hx hb dX10_looksForNext_27 rfl (lv_at hl 3 rfl) ?_
      refine lv_iconst (v := 4) hx hb dX10_looksForNext_28 li_4 ?_
      refine aldJ (k := 4) (q0 := 4) S hK hP rfl vl_4_760 tn_4 dX10_looksForNext_29 ?_
      refine lc_gt (tgt := 52) hx hb dX10_looksForNext_30 dX10_looksForNext_31 (by decide) (fun c10 => ?_) (fun c10 => ?_)
      · have h := iteP c10 h
        refine lv_iload hx hb dX10_looksForNext_52 (lv_at hl 0 rfl) ?_
        refine lv_if_eq (tgt := 75) hx hb dX10_looksForNext_54 (by decide) (fun c11 => ?_) (fun c11 => ?_)
        · have h := iteP c11 h
          have h := Option.some.inj h
          subst h
          exact wRv S hr hlk (hP.sub [0, 1, 2, 3, 4] rfl) (hD.sub [0, 1, 2, 3, 4] (by decide) rfl) hS dX10_looksForNext_75
        · have h := iteN c11 h
          refine lv_aload_n hx hb dX10_looksForNext_57 rfl (lv_at hl 2 rfl) ?_
          refine lv_aload_n hx hb dX10_looksForNext_58 rfl (lv_at hl 3 rfl) ?_
          refine lv_iconst (v := 1) hx hb dX10_looksForNext_59 li_1 ?_
          refine lv_aload_n hx hb dX10_looksForNext_60 rfl (lv_at hl 3 rfl) ?_
          refine lv_iconst (v := 4) hx hb dX10_looksForNext_61 li_4 ?_
          refine aldJ (k := 4) (q0 := 4) S hK hP rfl vl_4_760 tn_4 dX10_looksForNext_62 ?_
          refine lv_aload_n hx hb dX10_looksForNext_63 rfl (lv_at hl 2 rfl) ?_
          refine lv_aload_n hx hb dX10_looksForNext_64 rfl (lv_at hl 3 rfl) ?_
          refine lv_iconst (v := 1) hx hb dX10_looksForNext_65 li_1 ?_
          refine lv_ldc2 (v := 500) hx hb S.2.2.2.1 (S.2.2.2.2 _ tb1108) dX10_looksForNext_66 ?_
          obtain ⟨z12, e_z12, h⟩ := obnd_eq h
          refine rdV (pc1 := 72) (rest := [.long (r4 4), .int 1, .ref h4, .ref h0]) (st1 := [.long z12, .long (r4 4), .int 1, .ref h4, .ref h0]) S (c_X10_borne l D cI cJ cC h0 h1 h2 h3 h4 kthis_lengths kthis_flows kthis_now kthis_trial v0_phases v0_has v0_thrown r1 r2 r3 r4 1 500 z12 e_z12) (cw_X10_95 S.2.2.2.2 ⟨Nat.le_of_ble_eq_true rfl, Nat.le_of_ble_eq_true rfl⟩) hK (hP.sub [0, 1, 2, 3, 4] rfl) rfl rfl rfl rfl hl.1 rfl (Nat.le_of_ble_eq_true rfl) ⟨Nat.zero_le _, Nat.zero_le _⟩ rfl rfl dX10_looksForNext_69 ?_
          obtain ⟨u13, e_u13, h⟩ := obnd_eq h
          refine wrV (pc1 := 75) (rest := []) (st1 := []) (wr := [(h1, .inl (cI, 2, .inl r1))]) S (c_X10_begins l D cI cJ cC h0 h2 h3 h4 h1 kthis_lengths kthis_flows kthis_now kthis_trial v0_phases v0_has v0_thrown r2 r3 r4 s.heap.size 1 (r4 4) z12 u13 e_u13) (cw_X10_110 S.2.2.2.2 ⟨Nat.le_of_ble_eq_true rfl, Nat.le_of_ble_eq_true rfl⟩) hK hP hD hS hA [0, 2, 3, 4] [1] rfl rfl rfl (by decide) (by decide) (by decide) rfl rfl rfl rfl hl.1 rfl (Nat.le_of_ble_eq_true rfl) ⟨Nat.zero_le _, Nat.zero_le _⟩ rfl rfl dX10_looksForNext_72 (fun H locs hP hD hS => ?_)
          have hP : va_P D vwCl [(h1, .inl (cI, 2, .inl r1)), (h0, .inr (10, [.ref h2, .ref h3, .ref h1, .ref kthis_lengths, .ref kthis_flows, .int v0_phases, .ref kthis_now, .ref kthis_trial, .int v0_has, .int v0_thrown])), (h2, .inl (cI, 15, .inl r2)), (h3, .inl (cI, 12, .inl r3)), (h4, .inl (cJ, 760, .inr (.inl u13)))] H := hP
          have hD : va_D A [(h1, .inl (cI, 2, .inl r1)), (h0, .inr (10, [.ref h2, .ref h3, .ref h1, .ref kthis_lengths, .ref kthis_flows, .int v0_phases, .ref kthis_now, .ref kthis_trial, .int v0_has, .int v0_thrown])), (h2, .inl (cI, 15, .inl r2)), (h3, .inl (cI, 12, .inl r3)), (h4, .inl (cJ, 760, .inr (.inl u13)))] := hD
          have h := Option.some.inj h
          subst h
          exact wRv S hr hlk (hP.sub [1, 0, 2, 3, 4] rfl) (hD.sub [1, 0, 2, 3, 4] (by decide) rfl) hS dX10_looksForNext_75
      · have h := iteN c10 h
        refine lv_aload_n hx hb dX10_looksForNext_34 rfl (lv_at hl 2 rfl) ?_
        refine lv_aload_n hx hb dX10_looksForNext_35 rfl (lv_at hl 3 rfl) ?_
        refine lv_iconst (v := 0) hx hb dX10_looksForNext_36 li_0 ?_
        refine lv_aload_n hx hb dX10_looksForNext_37 rfl (lv_at hl 3 rfl) ?_
        refine lv_iconst (v := 3) hx hb dX10_looksForNext_38 li_3 ?_
        refine aldJ (k := 3) (q0 := 4) S hK hP rfl vl_3_760 tn_3 dX10_looksForNext_39 ?_
        refine lv_aload_n hx hb dX10_looksForNext_40 rfl (lv_at hl 2 rfl) ?_
        refine lv_aload_n hx hb dX10_looksForNext_41 rfl (lv_at hl 3 rfl) ?_
        refine lv_iload_n hx hb dX10_looksForNext_42 rfl (lv_at hl 4 rfl) ?_
        obtain ⟨z14, e_z14, h⟩ := obnd_eq h
        refine rdV (pc1 := 46) (rest := [.long (r4 3), .int 0, .ref h4, .ref h0]) (st1 := [.long z14, .long (r4 3), .int 0, .ref h4, .ref h0]) S (c_X10_chosen l D cI cJ cC h0 h1 h2 h3 h4 kthis_lengths kthis_flows kthis_now kthis_trial v0_phases v0_has v0_thrown r1 r2 r3 r4 p1 z14 e_z14) (cw_X10_107 S.2.2.2.2 ⟨Nat.le_of_ble_eq_true rfl, Nat.le_of_ble_eq_true rfl⟩) hK (hP.sub [0, 1, 2, 3, 4] rfl) rfl rfl rfl rfl hl.1 rfl (Nat.le_of_ble_eq_true rfl) ⟨Nat.zero_le _, Nat.zero_le _⟩ rfl rfl dX10_looksForNext_43 ?_
        obtain ⟨u15, e_u15, h⟩ := obnd_eq h
        refine wrV (pc1 := 49) (rest := []) (st1 := []) (wr := [(h1, .inl (cI, 2, .inl r1))]) S (c_X10_begins l D cI cJ cC h0 h2 h3 h4 h1 kthis_lengths kthis_flows kthis_now kthis_trial v0_phases v0_has v0_thrown r2 r3 r4 s.heap.size 0 (r4 3) z14 u15 e_u15) (cw_X10_110 S.2.2.2.2 ⟨Nat.le_of_ble_eq_true rfl, Nat.le_of_ble_eq_true rfl⟩) hK hP hD hS hA [0, 2, 3, 4] [1] rfl rfl rfl (by decide) (by decide) (by decide) rfl rfl rfl rfl hl.1 rfl (Nat.le_of_ble_eq_true rfl) ⟨Nat.zero_le _, Nat.zero_le _⟩ rfl rfl dX10_looksForNext_46 (fun H locs hP hD hS => ?_)
        have hP : va_P D vwCl [(h1, .inl (cI, 2, .inl r1)), (h0, .inr (10, [.ref h2, .ref h3, .ref h1, .ref kthis_lengths, .ref kthis_flows, .int v0_phases, .ref kthis_now, .ref kthis_trial, .int v0_has, .int v0_thrown])), (h2, .inl (cI, 15, .inl r2)), (h3, .inl (cI, 12, .inl r3)), (h4, .inl (cJ, 760, .inr (.inl u15)))] H := hP
        have hD : va_D A [(h1, .inl (cI, 2, .inl r1)), (h0, .inr (10, [.ref h2, .ref h3, .ref h1, .ref kthis_lengths, .ref kthis_flows, .int v0_phases, .ref kthis_now, .ref kthis_trial, .int v0_has, .int v0_thrown])), (h2, .inl (cI, 15, .inl r2)), (h3, .inl (cI, 12, .inl r3)), (h4, .inl (cJ, 760, .inr (.inl u15)))] := hD
        refine lv_goto (tgt := 75) hx hb dX10_looksForNext_49 (by decide) ?_
        have h := Option.some.inj h
        subst h
        exact wRv S hr hlk (hP.sub [1, 0, 2, 3, 4] rfl) (hD.sub [1, 0, 2, 3, 4] (by decide) rfl) hS dX10_looksForNext_75
