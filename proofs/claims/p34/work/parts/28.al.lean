abbrev rm_X8_allows : Room := { frames := 0, cells := 0, slots := 0, locals := 0 }
theorem dX8_allows_0 : decode cX8_allows 0 = .ok (.iload_n 0, 1) := by decide +kernel
theorem dX8_allows_1 : decode cX8_allows 1 = .ok (.ifCond .lt 41, 3) := by decide +kernel
theorem dX8_allows_4 : decode cX8_allows 4 = .ok (.iload_n 0, 1) := by decide +kernel
theorem dX8_allows_5 : decode cX8_allows 5 = .ok (.getstatic 42, 3) := by decide +kernel
theorem dX8_allows_8 : decode cX8_allows 8 = .ok (.arraylength, 1) := by decide +kernel
theorem dX8_allows_9 : decode cX8_allows 9 = .ok (.if_icmp .ge 33, 3) := by decide +kernel
theorem dX8_allows_12 : decode cX8_allows 12 = .ok (.iload_n 0, 1) := by decide +kernel
theorem dX8_allows_13 : decode cX8_allows 13 = .ok (.getstatic 45, 3) := by decide +kernel
theorem dX8_allows_16 : decode cX8_allows 16 = .ok (.arraylength, 1) := by decide +kernel
theorem dX8_allows_17 : decode cX8_allows 17 = .ok (.if_icmp .ge 25, 3) := by decide +kernel
theorem dX8_allows_20 : decode cX8_allows 20 = .ok (.iload_n 1, 1) := by decide +kernel
theorem dX8_allows_21 : decode cX8_allows 21 = .ok (.getstatic 42, 3) := by decide +kernel
theorem dX8_allows_24 : decode cX8_allows 24 = .ok (.iload_n 0, 1) := by decide +kernel
theorem dX8_allows_25 : decode cX8_allows 25 = .ok (.iaload, 1) := by decide +kernel
theorem dX8_allows_26 : decode cX8_allows 26 = .ok (.if_icmp .lt 16, 3) := by decide +kernel
theorem dX8_allows_29 : decode cX8_allows 29 = .ok (.iload_n 1, 1) := by decide +kernel
theorem dX8_allows_30 : decode cX8_allows 30 = .ok (.getstatic 45, 3) := by decide +kernel
theorem dX8_allows_33 : decode cX8_allows 33 = .ok (.iload_n 0, 1) := by decide +kernel
theorem dX8_allows_34 : decode cX8_allows 34 = .ok (.iaload, 1) := by decide +kernel
theorem dX8_allows_35 : decode cX8_allows 35 = .ok (.if_icmp .gt 7, 3) := by decide +kernel
theorem dX8_allows_38 : decode cX8_allows 38 = .ok (.iconst 1, 1) := by decide +kernel
theorem dX8_allows_39 : decode cX8_allows 39 = .ok (.goto 4, 3) := by decide +kernel
theorem dX8_allows_42 : decode cX8_allows 42 = .ok (.iconst 0, 1) := by decide +kernel
theorem dX8_allows_43 : decode cX8_allows 43 = .ok (.ireturn, 1) := by decide +kernel
def f_X8_allows (p0 p1 : Int32) : Int32 :=
  if p0 < 0 then
    0
  else
    if 15 ≤ p0 then
      0
    else
      if 15 ≤ p0 then
        0
      else
        if p1 < (LV p0.toNatClampNeg) then
          0
        else
          if (GV p0.toNatClampNeg) < p1 then
            0
          else
            1
set_option maxHeartbeats 4000000 in
set_option maxRecDepth 100000 in
theorem c_X8_allows (l : Launch) (ga : Nat → Nat) (D : va_G) (cI cJ cC : ClassId)  (p0 p1 : Int32) (t0 : Int32) (h : f_X8_allows p0 p1 = t0) : Met l yX8_allows (Cond.code yX8_allows cX8_allows 2 (some .boolean) :: TB) rm_X8_allows (PreG ga D cI cJ cC [] [.int p0, .int p1]) (QR (some (.int t0))) 0 0 free0 := by
  refine metG (own := RX8) (by decide) rfl (Nat.le_of_ble_eq_true rfl) ?_
  intro p e s m below meth c S hr hlk hP hK hG ls hl
  have hx := S.1
  have hb := S.2.1
  have hl : lv_has ls 2 [(0, .int p0), (1, .int p1)] := hl
  refine lv_iload_n hx hb dX8_allows_0 rfl (lv_at hl 0 rfl) ?_
  refine lv_if_lt (tgt := 42) hx hb dX8_allows_1 (by decide) (fun c1 => ?_) (fun c1 => ?_)
  · have h := iteP c1 h
    refine lv_iconst (v := 0) hx hb dX8_allows_42 li_0 ?_
    subst h
    exact rRz S hr hlk (by decide) dX8_allows_43
  · have h := iteN c1 h
    refine lv_iload_n hx hb dX8_allows_4 rfl (lv_at hl 0 rfl) ?_
    refine va_getsN hx hb (hG.2.2.2.2.1 (1, "LEAST_VALUES", LV) (List.mem_of_getElem? (i := 1) rfl)).1 (va_S.rf (A := free0)) S.2.2.2.1 (va_Nw.use rfl (hG.1 _ nb_15)) (fun _ h9 => h9) dX8_allows_5 ?_
    refine va_tlen hx hb (hG.2.2.2.2.1 (1, "LEAST_VALUES", LV) (List.mem_of_getElem? (i := 1) rfl)).2 (va_S.rf (A := free0)) (v := 15) rfl dX8_allows_8 ?_
    refine lv_icmp_ge (tgt := 42) hx hb dX8_allows_9 (by decide) (fun c2 => ?_) (fun c2 => ?_)
    · have h := iteP c2 h
      refine lv_iconst (v := 0) hx hb dX8_allows_42 li_0 ?_
      subst h
      exact rRz S hr hlk (by decide) dX8_allows_43
    · have h := iteN c2 h
      refine lv_iload_n hx hb dX8_allows_12 rfl (lv_at hl 0 rfl) ?_
      refine va_getsN hx hb (hG.2.2.2.2.1 (2, "GREATEST_VALUES", GV) (List.mem_of_getElem? (i := 2) rfl)).1 (va_S.rf (A := free0)) S.2.2.2.1 (va_Nw.use rfl (hG.1 _ nb_16)) (fun _ h9 => h9) dX8_allows_13 ?_
      refine va_tlen hx hb (hG.2.2.2.2.1 (2, "GREATEST_VALUES", GV) (List.mem_of_getElem? (i := 2) rfl)).2 (va_S.rf (A := free0)) (v := 15) rfl dX8_allows_16 ?_
      refine lv_icmp_ge (tgt := 42) hx hb dX8_allows_17 (by decide) (fun c3 => ?_) (fun c3 => ?_)
      · have h := iteP c3 h
        refine lv_iconst (v := 0) hx hb dX8_allows_42 li_0 ?_
        subst h
        exact rRz S hr hlk (by decide) dX8_allows_43
      · have h := iteN c3 h
        refine lv_iload_n hx hb dX8_allows_20 rfl (lv_at hl 1 rfl) ?_
        refine va_getsN hx hb (hG.2.2.2.2.1 (1, "LEAST_VALUES", LV) (List.mem_of_getElem? (i := 1) rfl)).1 (va_S.rf (A := free0)) S.2.2.2.1 (va_Nw.use rfl (hG.1 _ nb_15)) (fun _ h9 => h9) dX8_allows_21 ?_
        refine lv_iload_n hx hb dX8_allows_24 rfl (lv_at hl 0 rfl) ?_
        refine va_ti hx hb (hG.2.2.2.2.1 (1, "LEAST_VALUES", LV) (List.mem_of_getElem? (i := 1) rfl)).2 (va_S.rf (A := free0)) (vpb (nlt32 c1) (nle32 c3) rfl) (v := .int (LV p0.toNatClampNeg)) rfl dX8_allows_25 ?_
        refine lv_icmp_lt (tgt := 42) hx hb dX8_allows_26 (by decide) (fun c4 => ?_) (fun c4 => ?_)
        · have h := iteP c4 h
          refine lv_iconst (v := 0) hx hb dX8_allows_42 li_0 ?_
          subst h
          exact rRz S hr hlk (by decide) dX8_allows_43
        · have h := iteN c4 h
          refine lv_iload_n hx hb dX8_allows_29 rfl (lv_at hl 1 rfl) ?_
          refine va_getsN hx hb (hG.2.2.2.2.1 (2, "GREATEST_VALUES", GV) (List.mem_of_getElem? (i := 2) rfl)).1 (va_S.rf (A := free0)) S.2.2.2.1 (va_Nw.use rfl (hG.1 _ nb_16)) (fun _ h9 => h9) dX8_allows_30 ?_
          refine lv_iload_n hx hb dX8_allows_33 rfl (lv_at hl 0 rfl) ?_
          refine va_ti hx hb (hG.2.2.2.2.1 (2, "GREATEST_VALUES", GV) (List.mem_of_getElem? (i := 2) rfl)).2 (va_S.rf (A := free0)) (vpb (nlt32 c1) (nle32 c3) rfl) (v := .int (GV p0.toNatClampNeg)) rfl dX8_allows_34 ?_
          refine lv_icmp_gt (tgt := 42) hx hb dX8_allows_35 (by decide) (fun c5 => ?_) (fun c5 => ?_)
          · have h := iteP c5 h
            refine lv_iconst (v := 0) hx hb dX8_allows_42 li_0 ?_
            subst h
            exact rRz S hr hlk (by decide) dX8_allows_43
          · have h := iteN c5 h
            refine lv_iconst (v := 1) hx hb dX8_allows_38 li_1 ?_
            refine lv_goto (tgt := 43) hx hb dX8_allows_39 (by decide) ?_
            subst h
            exact rRz S hr hlk (by decide) dX8_allows_43
