abbrev rm_X10_leastStart : Room := { frames := 5, cells := 0, slots := 0, locals := 135 }
theorem dX10_leastStart_0 : decode cX10_leastStart 0 = .ok (.aload_n 0, 1) := by decide +kernel
theorem dX10_leastStart_1 : decode cX10_leastStart 1 = .ok (.iload_n 1, 1) := by decide +kernel
theorem dX10_leastStart_2 : decode cX10_leastStart 2 = .ok (.invokevirtual 200, 3) := by decide +kernel
theorem dX10_leastStart_5 : decode cX10_leastStart 5 = .ok (.ifCond .ne 5, 3) := by decide +kernel
theorem dX10_leastStart_8 : decode cX10_leastStart 8 = .ok (.iconst 0, 1) := by decide +kernel
theorem dX10_leastStart_9 : decode cX10_leastStart 9 = .ok (.ireturn, 1) := by decide +kernel
theorem dX10_leastStart_10 : decode cX10_leastStart 10 = .ok (.iconst 0, 1) := by decide +kernel
theorem dX10_leastStart_11 : decode cX10_leastStart 11 = .ok (.istore_n 2, 1) := by decide +kernel
theorem dX10_leastStart_12 : decode cX10_leastStart 12 = .ok (.iload_n 2, 1) := by decide +kernel
theorem dX10_leastStart_13 : decode cX10_leastStart 13 = .ok (.bipush 10, 2) := by decide +kernel
theorem dX10_leastStart_15 : decode cX10_leastStart 15 = .ok (.if_icmp .gt 74, 3) := by decide +kernel
theorem dX10_leastStart_18 : decode cX10_leastStart 18 = .ok (.iload_n 2, 1) := by decide +kernel
theorem dX10_leastStart_19 : decode cX10_leastStart 19 = .ok (.aload_n 0, 1) := by decide +kernel
theorem dX10_leastStart_20 : decode cX10_leastStart 20 = .ok (.getfield 7, 3) := by decide +kernel
theorem dX10_leastStart_23 : decode cX10_leastStart 23 = .ok (.iconst 0, 1) := by decide +kernel
theorem dX10_leastStart_24 : decode cX10_leastStart 24 = .ok (.iaload, 1) := by decide +kernel
theorem dX10_leastStart_25 : decode cX10_leastStart 25 = .ok (.imul, 1) := by decide +kernel
theorem dX10_leastStart_26 : decode cX10_leastStart 26 = .ok (.ldc 32, 2) := by decide +kernel
theorem dX10_leastStart_28 : decode cX10_leastStart 28 = .ok (.if_icmp .le 8, 3) := by decide +kernel
theorem dX10_leastStart_31 : decode cX10_leastStart 31 = .ok (.ldc 32, 2) := by decide +kernel
theorem dX10_leastStart_33 : decode cX10_leastStart 33 = .ok (.goto 11, 3) := by decide +kernel
theorem dX10_leastStart_36 : decode cX10_leastStart 36 = .ok (.iload_n 2, 1) := by decide +kernel
theorem dX10_leastStart_37 : decode cX10_leastStart 37 = .ok (.aload_n 0, 1) := by decide +kernel
theorem dX10_leastStart_38 : decode cX10_leastStart 38 = .ok (.getfield 7, 3) := by decide +kernel
theorem dX10_leastStart_41 : decode cX10_leastStart 41 = .ok (.iconst 0, 1) := by decide +kernel
theorem dX10_leastStart_42 : decode cX10_leastStart 42 = .ok (.iaload, 1) := by decide +kernel
theorem dX10_leastStart_43 : decode cX10_leastStart 43 = .ok (.imul, 1) := by decide +kernel
theorem dX10_leastStart_44 : decode cX10_leastStart 44 = .ok (.istore_n 3, 1) := by decide +kernel
theorem dX10_leastStart_45 : decode cX10_leastStart 45 = .ok (.aload_n 0, 1) := by decide +kernel
theorem dX10_leastStart_46 : decode cX10_leastStart 46 = .ok (.getfield 29, 3) := by decide +kernel
theorem dX10_leastStart_49 : decode cX10_leastStart 49 = .ok (.invokestatic 168, 3) := by decide +kernel
theorem dX10_leastStart_52 : decode cX10_leastStart 52 = .ok (.aload_n 0, 1) := by decide +kernel
theorem dX10_leastStart_53 : decode cX10_leastStart 53 = .ok (.aload_n 0, 1) := by decide +kernel
theorem dX10_leastStart_54 : decode cX10_leastStart 54 = .ok (.getfield 29, 3) := by decide +kernel
theorem dX10_leastStart_57 : decode cX10_leastStart 57 = .ok (.iload_n 1, 1) := by decide +kernel
theorem dX10_leastStart_58 : decode cX10_leastStart 58 = .ok (.aload_n 0, 1) := by decide +kernel
theorem dX10_leastStart_59 : decode cX10_leastStart 59 = .ok (.getfield 7, 3) := by decide +kernel
theorem dX10_leastStart_62 : decode cX10_leastStart 62 = .ok (.bipush 12, 2) := by decide +kernel
theorem dX10_leastStart_64 : decode cX10_leastStart 64 = .ok (.iaload, 1) := by decide +kernel
theorem dX10_leastStart_65 : decode cX10_leastStart 65 = .ok (.iload_n 3, 1) := by decide +kernel
theorem dX10_leastStart_66 : decode cX10_leastStart 66 = .ok (.invokevirtual 175, 3) := by decide +kernel
theorem dX10_leastStart_69 : decode cX10_leastStart 69 = .ok (.aload_n 0, 1) := by decide +kernel
theorem dX10_leastStart_70 : decode cX10_leastStart 70 = .ok (.getfield 29, 3) := by decide +kernel
theorem dX10_leastStart_73 : decode cX10_leastStart 73 = .ok (.bipush 18, 2) := by decide +kernel
theorem dX10_leastStart_75 : decode cX10_leastStart 75 = .ok (.laload, 1) := by decide +kernel
theorem dX10_leastStart_76 : decode cX10_leastStart 76 = .ok (.lconst 0, 1) := by decide +kernel
theorem dX10_leastStart_77 : decode cX10_leastStart 77 = .ok (.lcmp, 1) := by decide +kernel
theorem dX10_leastStart_78 : decode cX10_leastStart 78 = .ok (.ifCond .ne 5, 3) := by decide +kernel
theorem dX10_leastStart_81 : decode cX10_leastStart 81 = .ok (.iload_n 2, 1) := by decide +kernel
theorem dX10_leastStart_82 : decode cX10_leastStart 82 = .ok (.ireturn, 1) := by decide +kernel
theorem dX10_leastStart_83 : decode cX10_leastStart 83 = .ok (.iinc 2 1, 3) := by decide +kernel
theorem dX10_leastStart_86 : decode cX10_leastStart 86 = .ok (.goto (-74), 3) := by decide +kernel
theorem dX10_leastStart_89 : decode cX10_leastStart 89 = .ok (.iconst (-1), 1) := by decide +kernel
theorem dX10_leastStart_90 : decode cX10_leastStart 90 = .ok (.ireturn, 1) := by decide +kernel
def f_X10_leastStart_b12 (v0_phases : Int32) (r1 r2 r3 r4 r5 : Nat → Int32) : Nat → Int32 → (Nat → Int64) → Int32 → Int32 → Option (Int32 × Int32 × (Nat → Int64))
  | 0, _, _, _, _ => none
  | n + 1, v0_thrown, r6, l1, l2 =>
    if 10 < l2 then
      some ((-1), v0_thrown, r6)
    else
      if (l2 * (r4 0)) ≤ 60000 then
        bnd (f_X10_clears r6) fun (u3 : Nat → Int64) =>
        obnd (f_X10_goesOn v0_phases r1 r2 r3 r4 r5 u3 l1 (r4 12) (l2 * (r4 0))) fun (u4 : Nat → Int64) =>
        if (u4 18) = 0 then
          some (l2, v0_thrown, u4)
        else
          f_X10_leastStart_b12 v0_phases r1 r2 r3 r4 r5 n v0_thrown u4 l1 (l2 + 1)
      else
        bnd (f_X10_clears r6) fun (u6 : Nat → Int64) =>
        obnd (f_X10_goesOn v0_phases r1 r2 r3 r4 r5 u6 l1 (r4 12) 60000) fun (u7 : Nat → Int64) =>
        if (u7 18) = 0 then
          some (l2, v0_thrown, u7)
        else
          f_X10_leastStart_b12 v0_phases r1 r2 r3 r4 r5 n v0_thrown u7 l1 (l2 + 1)
def f_X10_leastStart (v0_phases : Int32) (r1 r2 r3 r4 r5 : Nat → Int32) (r6 : Nat → Int64) (p0 : Int32) : Option (Int32 × Int32 × (Nat → Int64)) :=
  bnd2 (f_X10_isTrial v0_phases r2 p0) fun (y1 : Int32) (y2 : Int32) =>
  if y1 = 0 then
    some (0, y2, r6)
  else
    f_X10_leastStart_b12 v0_phases r1 r2 r3 r4 r5 ((((11 : Int32).toInt - (0 : Int32).toInt).toNat) + 1) y2 r6 p0 0
set_option maxHeartbeats 4000000 in
set_option maxRecDepth 100000 in
theorem k_X10_leastStart_b12 {p : Program} {l : Launch} {e : Env} {s : State} {m : MethodId} {args : Array Value} {below : List Frame} {meth : Method} {c : Code} {D : va_G} {cI cJ cC : ClassId} {h0 h1 h2 h3 h4 h5 h6 kthis_now : Nat} {v0_phases v0_has : Int32} {r1 r2 r3 r4 r5 : Nat → Int32} {T : Int32 × Int32 × (Nat → Int64)}{A : Nat → Prop} (S : CallFix p m c cX10_leastStart 4 s args TB RX10) (hr : meth.sig.returnType = (some .int)) (hlk : meth.locks = false) (hK : va_K D vwCl (ty3 cI cJ cC) s) (hA : ∀ q : Nat, s.heap.size ≤ q → A q) : ∀ (n : Nat) (v0_thrown : Int32) (r6 : Nat → Int64) (l1 l2 : Int32) (H : Heap) (locs : List Loc) (ls : Array Slot), ((11 : Int32).toInt - l2.toInt).toNat < n → f_X10_leastStart_b12 v0_phases r1 r2 r3 r4 r5 n v0_thrown r6 l1 l2 = some T → va_P D vwCl [(h0, .inr (10, [.ref h4, .ref h5, .ref h2, .ref h3, .ref h1, .int v0_phases, .ref kthis_now, .ref h6, .int v0_has, .int v0_thrown])), (h1, .inl (cI, 20, .inl r1)), (h2, .inl (cI, 2, .inl r2)), (h3, .inl (cI, 20, .inl r3)), (h4, .inl (cI, 15, .inl r4)), (h5, .inl (cI, 12, .inl r5)), (h6, .inl (cJ, 760, .inr (.inl r6)))] H → va_D A [(h0, .inr (10, [.ref h4, .ref h5, .ref h2, .ref h3, .ref h1, .int v0_phases, .ref kthis_now, .ref h6, .int v0_has, .int v0_thrown])), (h1, .inl (cI, 20, .inl r1)), (h2, .inl (cI, 2, .inl r2)), (h3, .inl (cI, 20, .inl r3)), (h4, .inl (cI, 15, .inl r4)), (h5, .inl (cI, 12, .inl r5)), (h6, .inl (cJ, 760, .inr (.inl r6)))] → va_S A s.heap H locs → lv_has ls 4 [(0, .ref h0), (1, .int l1), (2, .int l2)] → W p l e rm_X10_leastStart s m args below meth c H locs 0 0 (MQ below (QW (some (.int T.1)) D [(h0, .inr (10, [.ref h4, .ref h5, .ref h2, .ref h3, .ref h1, .int v0_phases, .ref kthis_now, .ref h6, .int v0_has, .int T.2.1])), (h1, .inl (cI, 20, .inl r1)), (h2, .inl (cI, 2, .inl r2)), (h3, .inl (cI, 20, .inl r3)), (h4, .inl (cI, 15, .inl r4)), (h5, .inl (cI, 12, .inl r5)), (h6, .inl (cJ, 760, .inr (.inl T.2.2)))] A) args s 0 0 A) (F0 m 12 ls []) := by
  have hx := S.1
  have hb := S.2.1
  intro n
  induction n with
  | zero => intro v0_thrown r6 l1 l2 H locs ls  hmu; exact absurd hmu (Nat.not_lt_zero _)
  | succ n ih =>
    intro v0_thrown r6 l1 l2 H locs ls  hmu h hP hD hS hl
    refine lv_iload_n hx hb dX10_leastStart_12 rfl (lv_at hl 2 rfl) ?_
    refine lv_bipush (v := 10) hx hb dX10_leastStart_13 lb_10 ?_
    refine lv_icmp_gt (tgt := 89) hx hb dX10_leastStart_15 (by decide) (fun c1 => ?_) (fun c1 => ?_)
    · have h := iteP c1 h
      refine lv_iconst (v := (-1)) hx hb dX10_leastStart_89 li_m1 ?_
      have h := Option.some.inj h
      subst h
      exact wRi S hr hlk (hP.sub [0, 1, 2, 3, 4, 5, 6] rfl) (hD.sub [0, 1, 2, 3, 4, 5, 6] (by decide) rfl) hS dX10_leastStart_90
    · have h := iteN c1 h
      refine lv_iload_n hx hb dX10_leastStart_18 rfl (lv_at hl 2 rfl) ?_
      refine lv_aload_n hx hb dX10_leastStart_19 rfl (lv_at hl 0 rfl) ?_
      refine gf_X10_7 (v := .ref h4) S hK hP 0 rfl rfl dX10_leastStart_20 ?_
      refine lv_iconst (v := 0) hx hb dX10_leastStart_23 li_0 ?_
      refine aldI (k := 0) (q0 := 4) S hK hP rfl vl_0_15 tn_0 dX10_leastStart_24 ?_
      refine lv_imul hx hb dX10_leastStart_25 ?_
      refine lv_ldc (v := 60000) hx hb S.2.2.2.1 (S.2.2.2.2 _ tb960) dX10_leastStart_26 ?_
      refine lv_icmp_le (tgt := 36) hx hb dX10_leastStart_28 (by decide) (fun c2 => ?_) (fun c2 => ?_)
      · have h := iteP c2 h
        refine lv_iload_n hx hb dX10_leastStart_36 rfl (lv_at hl 2 rfl) ?_
        refine lv_aload_n hx hb dX10_leastStart_37 rfl (lv_at hl 0 rfl) ?_
        refine gf_X10_7 (v := .ref h4) S hK hP 0 rfl rfl dX10_leastStart_38 ?_
        refine lv_iconst (v := 0) hx hb dX10_leastStart_41 li_0 ?_
        refine aldI (k := 0) (q0 := 4) S hK hP rfl vl_0_15 tn_0 dX10_leastStart_42 ?_
        refine lv_imul hx hb dX10_leastStart_43 ?_
        refine lv_istore_n (lv' := [(3, .int (l2 * (r4 0))), (0, .ref h0), (1, .int l1), (2, .int l2)]) hx hb dX10_leastStart_44 rfl hl (by decide) rfl (fun ls hl => ?_)
        refine lv_aload_n hx hb dX10_leastStart_45 rfl (lv_at hl 1 rfl) ?_
        refine gf_X10_29 (v := .ref h6) S hK hP 0 rfl rfl dX10_leastStart_46 ?_
        obtain ⟨u3, e_u3⟩ : ∃ a0, f_X10_clears r6 = a0 := ⟨_, rfl⟩
        have h := bnd_eq e_u3 h
        refine wrS (pc1 := 52) (rest := []) (st1 := []) (wr := [(h0, .inr (10, [.ref h4, .ref h5, .ref h2, .ref h3, .ref h1, .int v0_phases, .ref kthis_now, .ref h6, .int v0_has, .int v0_thrown])), (h1, .inl (cI, 20, .inl r1)), (h2, .inl (cI, 2, .inl r2)), (h3, .inl (cI, 20, .inl r3)), (h4, .inl (cI, 15, .inl r4)), (h5, .inl (cI, 12, .inl r5))]) S (c_X10_clears l D cI cJ cC h6 r6 H.size  u3 e_u3) (cw_X10_168 S.2.2.2.2 ⟨Nat.le_of_ble_eq_true rfl, Nat.le_of_ble_eq_true rfl⟩) hK hP hD hS hA [6] [0, 1, 2, 3, 4, 5] rfl rfl rfl (by decide) (by decide) (by decide) rfl hl.1 rfl (Nat.le_of_ble_eq_true rfl) ⟨Nat.zero_le _, Nat.zero_le _⟩ rfl rfl dX10_leastStart_49 (fun H locs hP hD hS => ?_)
        have hP : va_P D vwCl [(h0, .inr (10, [.ref h4, .ref h5, .ref h2, .ref h3, .ref h1, .int v0_phases, .ref kthis_now, .ref h6, .int v0_has, .int v0_thrown])), (h1, .inl (cI, 20, .inl r1)), (h2, .inl (cI, 2, .inl r2)), (h3, .inl (cI, 20, .inl r3)), (h4, .inl (cI, 15, .inl r4)), (h5, .inl (cI, 12, .inl r5)), (h6, .inl (cJ, 760, .inr (.inl u3)))] H := hP
        have hD : va_D A [(h0, .inr (10, [.ref h4, .ref h5, .ref h2, .ref h3, .ref h1, .int v0_phases, .ref kthis_now, .ref h6, .int v0_has, .int v0_thrown])), (h1, .inl (cI, 20, .inl r1)), (h2, .inl (cI, 2, .inl r2)), (h3, .inl (cI, 20, .inl r3)), (h4, .inl (cI, 15, .inl r4)), (h5, .inl (cI, 12, .inl r5)), (h6, .inl (cJ, 760, .inr (.inl u3)))] := hD
        refine lv_aload_n hx hb dX10_leastStart_52 rfl (lv_at hl 1 rfl) ?_
        refine lv_aload_n hx hb dX10_leastStart_53 rfl (lv_at hl 1 rfl) ?_
        refine gf_X10_29 (v := .ref h6) S hK hP 0 rfl rfl dX10_leastStart_54 ?_
        refine lv_iload_n hx hb dX10_leastStart_57 rfl (lv_at hl 2 rfl) ?_
        refine lv_aload_n hx hb dX10_leastStart_58 rfl (lv_at hl 1 rfl) ?_
        refine gf_X10_7 (v := .ref h4) S hK hP 0 rfl rfl dX10_leastStart_59 ?_
        refine lv_bipush (v := 12) hx hb dX10_leastStart_62 lb_12 ?_
        refine aldI (k := 12) (q0 := 4) S hK hP rfl vl_12_15 tn_12 dX10_leastStart_64 ?_
        refine lv_iload_n hx hb dX10_leastStart_65 rfl (lv_at hl 0 rfl) ?_
        obtain ⟨u4, e_u4, h⟩ := obnd_eq h
        refine wrV (pc1 := 69) (rest := []) (st1 := []) (wr := []) S (c_X10_goesOn l D cI cJ cC h0 h1 h2 h3 h4 h5 h6 kthis_now h6 v0_phases v0_has v0_thrown r1 r2 r3 r4 r5 u3 H.size l1 (r4 12) (l2 * (r4 0)) u4 e_u4) (cw_X10_175 S.2.2.2.2 ⟨Nat.le_of_ble_eq_true rfl, Nat.le_of_ble_eq_true rfl⟩) hK hP hD hS hA [0, 1, 2, 3, 4, 5, 6] [] rfl rfl rfl (by decide) (by decide) (by decide) rfl rfl rfl rfl hl.1 rfl (Nat.le_of_ble_eq_true rfl) ⟨Nat.zero_le _, Nat.zero_le _⟩ rfl rfl dX10_leastStart_66 (fun H locs hP hD hS => ?_)
        have hP : va_P D vwCl [(h0, .inr (10, [.ref h4, .ref h5, .ref h2, .ref h3, .ref h1, .int v0_phases, .ref kthis_now, .ref h6, .int v0_has, .int v0_thrown])), (h1, .inl (cI, 20, .inl r1)), (h2, .inl (cI, 2, .inl r2)), (h3, .inl (cI, 20, .inl r3)), (h4, .inl (cI, 15, .inl r4)), (h5, .inl (cI, 12, .inl r5)), (h6, .inl (cJ, 760, .inr (.inl u4)))] H := hP
        have hD : va_D A [(h0, .inr (10, [.ref h4, .ref h5, .ref h2, .ref h3, .ref h1, .int v0_phases, .ref kthis_now, .ref h6, .int v0_has, .int v0_thrown])), (h1, .inl (cI, 20, .inl r1)), (h2, .inl (cI, 2, .inl r2)), (h3, .inl (cI, 20, .inl r3)), (h4, .inl (cI, 15, .inl r4)), (h5, .inl (cI, 12, .inl r5)), (h6, .inl (cJ, 760, .inr (.inl u4)))] := hD
        refine lv_aload_n hx hb dX10_leastStart_69 rfl (lv_at hl 1 rfl) ?_
        refine gf_X10_29 (v := .ref h6) S hK hP 0 rfl rfl dX10_leastStart_70 ?_
        refine lv_bipush (v := 18) hx hb dX10_leastStart_73 lb_18 ?_
        refine aldJ (k := 18) (q0 := 6) S hK hP rfl vl_18_760 tn_18 dX10_leastStart_75 ?_
        refine lv_lconst (v := 0) hx hb dX10_leastStart_76 rfl ?_
        refine lc_ne (tgt := 83) hx hb dX10_leastStart_77 dX10_leastStart_78 (by decide) (fun c5 => ?_) (fun c5 => ?_)
        · have h := iteN c5 h
          refine lv_iinc (v := l2 + 1) (lv' := [(2, .int (l2 + 1)), (3, .int (l2 * (r4 0))), (0, .ref h0), (1, .int l1)]) hx hb dX10_leastStart_83 hl (k := 3) rfl rfl (by decide) rfl (fun ls hl => ?_)
          refine lv_goto (tgt := 12) hx hb dX10_leastStart_86 (by decide) ?_
          exact ih v0_thrown u4 l1 (l2 + 1) _ _ _ (by first | exact mu_upC (by assumption) hmu | exact mu_upA (by assumption) hmu) h (hP.sub [0, 1, 2, 3, 4, 5, 6] rfl) (hD.sub [0, 1, 2, 3, 4, 5, 6] (by decide) rfl) hS (lv_sub hl [2, 3, 0] rfl)
        · have h := iteP c5 h
          refine lv_iload_n hx hb dX10_leastStart_81 rfl (lv_at hl 3 rfl) ?_
          have h := Option.some.inj h
          subst h
          exact wRi S hr hlk (hP.sub [0, 1, 2, 3, 4, 5, 6] rfl) (hD.sub [0, 1, 2, 3, 4, 5, 6] (by decide) rfl) hS dX10_leastStart_82
      · have h := iteN c2 h
        refine lv_ldc (v := 60000) hx hb S.2.2.2.1 (S.2.2.2.2 _ tb960) dX10_leastStart_31 ?_
        refine lv_goto (tgt := 44) hx hb dX10_leastStart_33 (by decide) ?_
        refine lv_istore_n (lv' := [(3, .int 60000), (0, .ref h0), (1, .int l1), (2, .int l2)]) hx hb dX10_leastStart_44 rfl hl (by decide) rfl (fun ls hl => ?_)
        refine lv_aload_n hx hb dX10_leastStart_45 rfl (lv_at hl 1 rfl) ?_
        refine gf_X10_29 (v := .ref h6) S hK hP 0 rfl rfl dX10_leastStart_46 ?_
        obtain ⟨u6, e_u6⟩ : ∃ a0, f_X10_clears r6 = a0 := ⟨_, rfl⟩
        have h := bnd_eq e_u6 h
        refine wrS (pc1 := 52) (rest := []) (st1 := []) (wr := [(h0, .inr (10, [.ref h4, .ref h5, .ref h2, .ref h3, .ref h1, .int v0_phases, .ref kthis_now, .ref h6, .int v0_has, .int v0_thrown])), (h1, .inl (cI, 20, .inl r1)), (h2, .inl (cI, 2, .inl r2)), (h3, .inl (cI, 20, .inl r3)), (h4, .inl (cI, 15, .inl r4)), (h5, .inl (cI, 12, .inl r5))]) S (c_X10_clears l D cI cJ cC h6 r6 H.size  u6 e_u6) (cw_X10_168 S.2.2.2.2 ⟨Nat.le_of_ble_eq_true rfl, Nat.le_of_ble_eq_true rfl⟩) hK hP hD hS hA [6] [0, 1, 2, 3, 4, 5] rfl rfl rfl (by decide) (by decide) (by decide) rfl hl.1 rfl (Nat.le_of_ble_eq_true rfl) ⟨Nat.zero_le _, Nat.zero_le _⟩ rfl rfl dX10_leastStart_49 (fun H locs hP hD hS => ?_)
        have hP : va_P D vwCl [(h0, .inr (10, [.ref h4, .ref h5, .ref h2, .ref h3, .ref h1, .int v0_phases, .ref kthis_now, .ref h6, .int v0_has, .int v0_thrown])), (h1, .inl (cI, 20, .inl r1)), (h2, .inl (cI, 2, .inl r2)), (h3, .inl (cI, 20, .inl r3)), (h4, .inl (cI, 15, .inl r4)), (h5, .inl (cI, 12, .inl r5)), (h6, .inl (cJ, 760, .inr (.inl u6)))] H := hP
        have hD : va_D A [(h0, .inr (10, [.ref h4, .ref h5, .ref h2, .ref h3, .ref h1, .int v0_phases, .ref kthis_now, .ref h6, .int v0_has, .int v0_thrown])), (h1, .inl (cI, 20, .inl r1)), (h2, .inl (cI, 2, .inl r2)), (h3, .inl (cI, 20, .inl r3)), (h4, .inl (cI, 15, .inl r4)), (h5, .inl (cI, 12, .inl r5)), (h6, .inl (cJ, 760, .inr (.inl u6)))] := hD
        refine lv_aload_n hx hb dX10_leastStart_52 rfl (lv_at hl 1 rfl) ?_
        refine lv_aload_n hx hb dX10_leastStart_53 rfl (lv_at hl 1 rfl) ?_
        refine gf_X10_29 (v := .ref h6) S hK hP 0 rfl rfl dX10_leastStart_54 ?_
        refine lv_iload_n hx hb dX10_leastStart_57 rfl (lv_at hl 2 rfl) ?_
        refine lv_aload_n hx hb dX10_leastStart_58 rfl (lv_at hl 1 rfl) ?_
        refine gf_X10_7 (v := .ref h4) S hK hP 0 rfl rfl dX10_leastStart_59 ?_
        refine lv_bipush (v := 12) hx hb dX10_leastStart_62 lb_12 ?_
        refine aldI (k := 12) (q0 := 4) S hK hP rfl vl_12_15 tn_12 dX10_leastStart_64 ?_
        refine lv_iload_n hx hb dX10_leastStart_65 rfl (lv_at hl 0 rfl) ?_
        obtain ⟨u7, e_u7, h⟩ := obnd_eq h
        refine wrV (pc1 := 69) (rest := []) (st1 := []) (wr := []) S (c_X10_goesOn l D cI cJ cC h0 h1 h2 h3 h4 h5 h6 kthis_now h6 v0_phases v0_has v0_thrown r1 r2 r3 r4 r5 u6 H.size l1 (r4 12) 60000 u7 e_u7) (cw_X10_175 S.2.2.2.2 ⟨Nat.le_of_ble_eq_true rfl, Nat.le_of_ble_eq_true rfl⟩) hK hP hD hS hA [0, 1, 2, 3, 4, 5, 6] [] rfl rfl rfl (by decide) (by decide) (by decide) rfl rfl rfl rfl hl.1 rfl (Nat.le_of_ble_eq_true rfl) ⟨Nat.zero_le _, Nat.zero_le _⟩ rfl rfl dX10_leastStart_66 (fun H locs hP hD hS => ?_)
        have hP : va_P D vwCl [(h0, .inr (10, [.ref h4, .ref h5, .ref h2, .ref h3, .ref h1, .int v0_phases, .ref kthis_now, .ref h6, .int v0_has, .int v0_thrown])), (h1, .inl (cI, 20, .inl r1)), (h2, .inl (cI, 2, .inl r2)), (h3, .inl (cI, 20, .inl r3)), (h4, .inl (cI, 15, .inl r4)), (h5, .inl (cI, 12, .inl r5)), (h6, .inl (cJ, 760, .inr (.inl u7)))] H := hP
        have hD : va_D A [(h0, .inr (10, [.ref h4, .ref h5, .ref h2, .ref h3, .ref h1, .int v0_phases, .ref kthis_now, .ref h6, .int v0_has, .int v0_thrown])), (h1, .inl (cI, 20, .inl r1)), (h2, .inl (cI, 2, .inl r2)), (h3, .inl (cI, 20, .inl r3)), (h4, .inl (cI, 15, .inl r4)), (h5, .inl (cI, 12, .inl r5)), (h6, .inl (cJ, 760, .inr (.inl u7)))] := hD
        refine lv_aload_n hx hb dX10_leastStart_69 rfl (lv_at hl 1 rfl) ?_
        refine gf_X10_29 (v := .ref h6) S hK hP 0 rfl rfl dX10_leastStart_70 ?_
        refine lv_bipush (v := 18) hx hb dX10_leastStart_73 lb_18 ?_
        refine aldJ (k := 18) (q0 := 6) S hK hP rfl vl_18_760 tn_18 dX10_leastStart_75 ?_
        refine lv_lconst (v := 0) hx hb dX10_leastStart_76 rfl ?_
        refine lc_ne (tgt := 83) hx hb dX10_leastStart_77 dX10_leastStart_78 (by decide) (fun c8 => ?_) (fun c8 => ?_)
        · have h := iteN c8 h
          refine lv_iinc (v := l2 + 1) (lv' := [(2, .int (l2 + 1)), (3, .int 60000), (0, .ref h0), (1, .int l1)]) hx hb dX10_leastStart_83 hl (k := 3) rfl rfl (by decide) rfl (fun ls hl => ?_)
          refine lv_goto (tgt := 12) hx hb dX10_leastStart_86 (by decide) ?_
          exact ih v0_thrown u7 l1 (l2 + 1) _ _ _ (by first | exact mu_upC (by assumption) hmu | exact mu_upA (by assumption) hmu) h (hP.sub [0, 1, 2, 3, 4, 5, 6] rfl) (hD.sub [0, 1, 2, 3, 4, 5, 6] (by decide) rfl) hS (lv_sub hl [2, 3, 0] rfl)
        · have h := iteP c8 h
          refine lv_iload_n hx hb dX10_leastStart_81 rfl (lv_at hl 3 rfl) ?_
          have h := Option.some.inj h
          subst h
          exact wRi S hr hlk (hP.sub [0, 1, 2, 3, 4, 5, 6] rfl) (hD.sub [0, 1, 2, 3, 4, 5, 6] (by decide) rfl) hS dX10_leastStart_82
set_option maxHeartbeats 4000000 in
set_option maxRecDepth 100000 in
theorem c_X10_leastStart (l : Launch) (D : va_G) (cI cJ cC : ClassId) (h0 h1 h2 h3 h4 h5 h6 kthis_now : Nat) (v0_phases v0_has v0_thrown : Int32) (r1 r2 r3 r4 r5 : Nat → Int32) (r6 : Nat → Int64) (sz : Nat) (p0 : Int32) (T : Int32 × Int32 × (Nat → Int64)) (h : f_X10_leastStart v0_phases r1 r2 r3 r4 r5 r6 p0 = some T) : Met l yX10_leastStart (Cond.code yX10_leastStart cX10_leastStart 4 (some .int) :: TB) rm_X10_leastStart (PreW D cI cJ cC [(h0, .inr (10, [.ref h4, .ref h5, .ref h2, .ref h3, .ref h1, .int v0_phases, .ref kthis_now, .ref h6, .int v0_has, .int v0_thrown])), (h1, .inl (cI, 20, .inl r1)), (h2, .inl (cI, 2, .inl r2)), (h3, .inl (cI, 20, .inl r3)), (h4, .inl (cI, 15, .inl r4)), (h5, .inl (cI, 12, .inl r5)), (h6, .inl (cJ, 760, .inr (.inl r6)))] sz [.ref h0, .int p0]) (QW (some (.int T.1)) D [(h0, .inr (10, [.ref h4, .ref h5, .ref h2, .ref h3, .ref h1, .int v0_phases, .ref kthis_now, .ref h6, .int v0_has, .int T.2.1])), (h1, .inl (cI, 20, .inl r1)), (h2, .inl (cI, 2, .inl r2)), (h3, .inl (cI, 20, .inl r3)), (h4, .inl (cI, 15, .inl r4)), (h5, .inl (cI, 12, .inl r5)), (h6, .inl (cJ, 760, .inr (.inl T.2.2)))] (va_A [(h0, .inr (10, [.ref h4, .ref h5, .ref h2, .ref h3, .ref h1, .int v0_phases, .ref kthis_now, .ref h6, .int v0_has, .int v0_thrown])), (h1, .inl (cI, 20, .inl r1)), (h2, .inl (cI, 2, .inl r2)), (h3, .inl (cI, 20, .inl r3)), (h4, .inl (cI, 15, .inl r4)), (h5, .inl (cI, 12, .inl r5)), (h6, .inl (cJ, 760, .inr (.inl r6)))] sz)) 0 0 (va_A [(h0, .inr (10, [.ref h4, .ref h5, .ref h2, .ref h3, .ref h1, .int v0_phases, .ref kthis_now, .ref h6, .int v0_has, .int v0_thrown])), (h1, .inl (cI, 20, .inl r1)), (h2, .inl (cI, 2, .inl r2)), (h3, .inl (cI, 20, .inl r3)), (h4, .inl (cI, 15, .inl r4)), (h5, .inl (cI, 12, .inl r5)), (h6, .inl (cJ, 760, .inr (.inl r6)))] sz) := by
  refine metW (own := RX10) (by decide) rfl (Nat.le_of_ble_eq_true rfl) ?_
  intro p e s m below meth c S hr hlk hP hK A hAe hD hA hS ls hl
  clear hAe
  have hx := S.1
  have hb := S.2.1
  have hl : lv_has ls 4 [(0, .ref h0), (1, .int p0)] := hl
  refine lv_aload_n hx hb dX10_leastStart_0 rfl (lv_at hl 0 rfl) ?_
  refine lv_iload_n hx hb dX10_leastStart_1 rfl (lv_at hl 1 rfl) ?_
  obtain ⟨y1, y2, e_y1⟩ : ∃ a0 a1, f_X10_isTrial v0_phases r2 p0 = (a0, a1) := ⟨_, _, rfl⟩
  have h := bnd2_eq e_y1 h
  refine wrV (pc1 := 5) (rest := []) (st1 := [.int y1]) (wr := [(h1, .inl (cI, 20, .inl r1)), (h3, .inl (cI, 20, .inl r3)), (h4, .inl (cI, 15, .inl r4)), (h5, .inl (cI, 12, .inl r5)), (h6, .inl (cJ, 760, .inr (.inl r6)))]) S (c_X10_isTrial l D cI cJ cC h0 h2 h4 h5 h3 h1 kthis_now h6 v0_phases v0_has v0_thrown r2 s.heap.size p0 (y1, y2) e_y1) (cw_X10_200 S.2.2.2.2 ⟨Nat.le_of_ble_eq_true rfl, Nat.le_of_ble_eq_true rfl⟩) hK hP hD hS hA [0, 2] [1, 3, 4, 5, 6] rfl rfl rfl (by decide) (by decide) (by decide) rfl rfl rfl rfl hl.1 rfl (Nat.le_of_ble_eq_true rfl) ⟨Nat.zero_le _, Nat.zero_le _⟩ rfl rfl dX10_leastStart_2 (fun H locs hP hD hS => ?_)
  have hP : va_P D vwCl [(h1, .inl (cI, 20, .inl r1)), (h3, .inl (cI, 20, .inl r3)), (h4, .inl (cI, 15, .inl r4)), (h5, .inl (cI, 12, .inl r5)), (h6, .inl (cJ, 760, .inr (.inl r6))), (h0, .inr (10, [.ref h4, .ref h5, .ref h2, .ref h3, .ref h1, .int v0_phases, .ref kthis_now, .ref h6, .int v0_has, .int y2])), (h2, .inl (cI, 2, .inl r2))] H := hP
  have hD : va_D A [(h1, .inl (cI, 20, .inl r1)), (h3, .inl (cI, 20, .inl r3)), (h4, .inl (cI, 15, .inl r4)), (h5, .inl (cI, 12, .inl r5)), (h6, .inl (cJ, 760, .inr (.inl r6))), (h0, .inr (10, [.ref h4, .ref h5, .ref h2, .ref h3, .ref h1, .int v0_phases, .ref kthis_now, .ref h6, .int v0_has, .int y2])), (h2, .inl (cI, 2, .inl r2))] := hD
  refine lv_if_ne (tgt := 10) hx hb dX10_leastStart_5 (by decide) (fun c3 => ?_) (fun c3 => ?_)
  · have h := iteN c3 h
    refine lv_iconst (v := 0) hx hb dX10_leastStart_10 li_0 ?_
    refine lv_istore_n (lv' := [(2, .int 0), (0, .ref h0), (1, .int p0)]) hx hb dX10_leastStart_11 rfl hl (by decide) rfl (fun ls hl => ?_)
    exact k_X10_leastStart_b12 S hr hlk hK hA _ y2 r6 p0 0 _ _ _ (Nat.lt_succ_self _) h (hP.sub [5, 0, 6, 1, 2, 3, 4] rfl) (hD.sub [5, 0, 6, 1, 2, 3, 4] (by decide) rfl) hS (lv_sub hl [1, 2, 0] rfl)
  · have h := iteP c3 h
    refine lv_iconst (v := 0) hx hb dX10_leastStart_8 li_0 ?_
    have h := Option.some.inj h
    subst h
    exact wRi S hr hlk (hP.sub [5, 0, 6, 1, 2, 3, 4] rfl) (hD.sub [5, 0, 6, 1, 2, 3, 4] (by decide) rfl) hS dX10_leastStart_9
abbrev rm_X10_fingerprint : Room := { frames := 1, cells := 0, slots := 0, locals := 26 }
theorem dX10_fingerprint_0 : decode cX10_fingerprint 0 = .ok (.aload_n 0, 1) := by decide +kernel
theorem dX10_fingerprint_1 : decode cX10_fingerprint 1 = .ok (.iconst 0, 1) := by decide +kernel
theorem dX10_fingerprint_2 : decode cX10_fingerprint 2 = .ok (.putfield 33, 3) := by decide +kernel
theorem dX10_fingerprint_5 : decode cX10_fingerprint 5 = .ok (.ldc2_w 204, 3) := by decide +kernel
theorem dX10_fingerprint_8 : decode cX10_fingerprint 8 = .ok (.aload_n 0, 1) := by decide +kernel
theorem dX10_fingerprint_9 : decode cX10_fingerprint 9 = .ok (.getfield 53, 3) := by decide +kernel
theorem dX10_fingerprint_12 : decode cX10_fingerprint 12 = .ok (.ifCond .eq 12, 3) := by decide +kernel
theorem dX10_fingerprint_15 : decode cX10_fingerprint 15 = .ok (.aload_n 0, 1) := by decide +kernel
theorem dX10_fingerprint_16 : decode cX10_fingerprint 16 = .ok (.getfield 25, 3) := by decide +kernel
theorem dX10_fingerprint_19 : decode cX10_fingerprint 19 = .ok (.iconst 2, 1) := by decide +kernel
theorem dX10_fingerprint_20 : decode cX10_fingerprint 20 = .ok (.laload, 1) := by decide +kernel
theorem dX10_fingerprint_21 : decode cX10_fingerprint 21 = .ok (.goto 4, 3) := by decide +kernel
theorem dX10_fingerprint_24 : decode cX10_fingerprint 24 = .ok (.lconst 0, 1) := by decide +kernel
theorem dX10_fingerprint_25 : decode cX10_fingerprint 25 = .ok (.ladd, 1) := by decide +kernel
theorem dX10_fingerprint_26 : decode cX10_fingerprint 26 = .ok (.lstore_n 1, 1) := by decide +kernel
theorem dX10_fingerprint_27 : decode cX10_fingerprint 27 = .ok (.aload_n 0, 1) := by decide +kernel
theorem dX10_fingerprint_28 : decode cX10_fingerprint 28 = .ok (.getfield 53, 3) := by decide +kernel
theorem dX10_fingerprint_31 : decode cX10_fingerprint 31 = .ok (.ifCond .ne 5, 3) := by decide +kernel
theorem dX10_fingerprint_34 : decode cX10_fingerprint 34 = .ok (.lload_n 1, 1) := by decide +kernel
theorem dX10_fingerprint_35 : decode cX10_fingerprint 35 = .ok (.lreturn, 1) := by decide +kernel
theorem dX10_fingerprint_36 : decode cX10_fingerprint 36 = .ok (.ldc2_w 80, 3) := by decide +kernel
theorem dX10_fingerprint_39 : decode cX10_fingerprint 39 = .ok (.lload_n 1, 1) := by decide +kernel
theorem dX10_fingerprint_40 : decode cX10_fingerprint 40 = .ok (.lmul, 1) := by decide +kernel
theorem dX10_fingerprint_41 : decode cX10_fingerprint 41 = .ok (.aload_n 0, 1) := by decide +kernel
theorem dX10_fingerprint_42 : decode cX10_fingerprint 42 = .ok (.getfield 25, 3) := by decide +kernel
theorem dX10_fingerprint_45 : decode cX10_fingerprint 45 = .ok (.iconst 0, 1) := by decide +kernel
theorem dX10_fingerprint_46 : decode cX10_fingerprint 46 = .ok (.laload, 1) := by decide +kernel
theorem dX10_fingerprint_47 : decode cX10_fingerprint 47 = .ok (.ladd, 1) := by decide +kernel
theorem dX10_fingerprint_48 : decode cX10_fingerprint 48 = .ok (.lstore_n 1, 1) := by decide +kernel
theorem dX10_fingerprint_49 : decode cX10_fingerprint 49 = .ok (.ldc2_w 80, 3) := by decide +kernel
theorem dX10_fingerprint_52 : decode cX10_fingerprint 52 = .ok (.lload_n 1, 1) := by decide +kernel
theorem dX10_fingerprint_53 : decode cX10_fingerprint 53 = .ok (.lmul, 1) := by decide +kernel
theorem dX10_fingerprint_54 : decode cX10_fingerprint 54 = .ok (.aload_n 0, 1) := by decide +kernel
theorem dX10_fingerprint_55 : decode cX10_fingerprint 55 = .ok (.getfield 25, 3) := by decide +kernel
theorem dX10_fingerprint_58 : decode cX10_fingerprint 58 = .ok (.iconst 1, 1) := by decide +kernel
theorem dX10_fingerprint_59 : decode cX10_fingerprint 59 = .ok (.laload, 1) := by decide +kernel
theorem dX10_fingerprint_60 : decode cX10_fingerprint 60 = .ok (.ladd, 1) := by decide +kernel
theorem dX10_fingerprint_61 : decode cX10_fingerprint 61 = .ok (.lstore_n 1, 1) := by decide +kernel
theorem dX10_fingerprint_62 : decode cX10_fingerprint 62 = .ok (.iconst 0, 1) := by decide +kernel
theorem dX10_fingerprint_63 : decode cX10_fingerprint 63 = .ok (.istore_n 3, 1) := by decide +kernel
theorem dX10_fingerprint_64 : decode cX10_fingerprint 64 = .ok (.iload_n 3, 1) := by decide +kernel
theorem dX10_fingerprint_65 : decode cX10_fingerprint 65 = .ok (.iconst 2, 1) := by decide +kernel
theorem dX10_fingerprint_66 : decode cX10_fingerprint 66 = .ok (.if_icmp .ge 38, 3) := by decide +kernel
theorem dX10_fingerprint_69 : decode cX10_fingerprint 69 = .ok (.ldc2_w 80, 3) := by decide +kernel
theorem dX10_fingerprint_72 : decode cX10_fingerprint 72 = .ok (.lload_n 1, 1) := by decide +kernel
theorem dX10_fingerprint_73 : decode cX10_fingerprint 73 = .ok (.lmul, 1) := by decide +kernel
theorem dX10_fingerprint_74 : decode cX10_fingerprint 74 = .ok (.aload_n 0, 1) := by decide +kernel
theorem dX10_fingerprint_75 : decode cX10_fingerprint 75 = .ok (.getfield 16, 3) := by decide +kernel
theorem dX10_fingerprint_78 : decode cX10_fingerprint 78 = .ok (.iload_n 3, 1) := by decide +kernel
theorem dX10_fingerprint_79 : decode cX10_fingerprint 79 = .ok (.iaload, 1) := by decide +kernel
theorem dX10_fingerprint_80 : decode cX10_fingerprint 80 = .ok (.ifCond .ne 7, 3) := by decide +kernel
theorem dX10_fingerprint_83 : decode cX10_fingerprint 83 = .ok (.lconst 0, 1) := by decide +kernel
theorem dX10_fingerprint_84 : decode cX10_fingerprint 84 = .ok (.goto 12, 3) := by decide +kernel
theorem dX10_fingerprint_87 : decode cX10_fingerprint 87 = .ok (.aload_n 0, 1) := by decide +kernel
theorem dX10_fingerprint_88 : decode cX10_fingerprint 88 = .ok (.aload_n 0, 1) := by decide +kernel
theorem dX10_fingerprint_89 : decode cX10_fingerprint 89 = .ok (.getfield 25, 3) := by decide +kernel
theorem dX10_fingerprint_92 : decode cX10_fingerprint 92 = .ok (.iload_n 3, 1) := by decide +kernel
theorem dX10_fingerprint_93 : decode cX10_fingerprint 93 = .ok (.invokevirtual 88, 3) := by decide +kernel
theorem dX10_fingerprint_96 : decode cX10_fingerprint 96 = .ok (.ladd, 1) := by decide +kernel
theorem dX10_fingerprint_97 : decode cX10_fingerprint 97 = .ok (.lstore_n 1, 1) := by decide +kernel
theorem dX10_fingerprint_98 : decode cX10_fingerprint 98 = .ok (.iinc 3 1, 3) := by decide +kernel
theorem dX10_fingerprint_101 : decode cX10_fingerprint 101 = .ok (.goto (-37), 3) := by decide +kernel
theorem dX10_fingerprint_104 : decode cX10_fingerprint 104 = .ok (.iconst 0, 1) := by decide +kernel
theorem dX10_fingerprint_105 : decode cX10_fingerprint 105 = .ok (.istore_n 3, 1) := by decide +kernel
theorem dX10_fingerprint_106 : decode cX10_fingerprint 106 = .ok (.iload_n 3, 1) := by decide +kernel
theorem dX10_fingerprint_107 : decode cX10_fingerprint 107 = .ok (.iconst 5, 1) := by decide +kernel
theorem dX10_fingerprint_108 : decode cX10_fingerprint 108 = .ok (.if_icmp .ge 22, 3) := by decide +kernel
theorem dX10_fingerprint_111 : decode cX10_fingerprint 111 = .ok (.ldc2_w 80, 3) := by decide +kernel
theorem dX10_fingerprint_114 : decode cX10_fingerprint 114 = .ok (.lload_n 1, 1) := by decide +kernel
theorem dX10_fingerprint_115 : decode cX10_fingerprint 115 = .ok (.lmul, 1) := by decide +kernel
theorem dX10_fingerprint_116 : decode cX10_fingerprint 116 = .ok (.aload_n 0, 1) := by decide +kernel
theorem dX10_fingerprint_117 : decode cX10_fingerprint 117 = .ok (.iload_n 3, 1) := by decide +kernel
theorem dX10_fingerprint_118 : decode cX10_fingerprint 118 = .ok (.invokevirtual 187, 3) := by decide +kernel
theorem dX10_fingerprint_121 : decode cX10_fingerprint 121 = .ok (.i2l, 1) := by decide +kernel
theorem dX10_fingerprint_122 : decode cX10_fingerprint 122 = .ok (.ladd, 1) := by decide +kernel
theorem dX10_fingerprint_123 : decode cX10_fingerprint 123 = .ok (.lstore_n 1, 1) := by decide +kernel
theorem dX10_fingerprint_124 : decode cX10_fingerprint 124 = .ok (.iinc 3 1, 3) := by decide +kernel
theorem dX10_fingerprint_127 : decode cX10_fingerprint 127 = .ok (.goto (-21), 3) := by decide +kernel
theorem dX10_fingerprint_130 : decode cX10_fingerprint 130 = .ok (.ldc2_w 80, 3) := by decide +kernel
theorem dX10_fingerprint_133 : decode cX10_fingerprint 133 = .ok (.lload_n 1, 1) := by decide +kernel
theorem dX10_fingerprint_134 : decode cX10_fingerprint 134 = .ok (.lmul, 1) := by decide +kernel
theorem dX10_fingerprint_135 : decode cX10_fingerprint 135 = .ok (.aload_n 0, 1) := by decide +kernel
theorem dX10_fingerprint_136 : decode cX10_fingerprint 136 = .ok (.getfield 25, 3) := by decide +kernel
theorem dX10_fingerprint_139 : decode cX10_fingerprint 139 = .ok (.iconst 5, 1) := by decide +kernel
theorem dX10_fingerprint_140 : decode cX10_fingerprint 140 = .ok (.laload, 1) := by decide +kernel
theorem dX10_fingerprint_141 : decode cX10_fingerprint 141 = .ok (.lconst 0, 1) := by decide +kernel
theorem dX10_fingerprint_142 : decode cX10_fingerprint 142 = .ok (.lcmp, 1) := by decide +kernel
theorem dX10_fingerprint_143 : decode cX10_fingerprint 143 = .ok (.ifCond .ne 9, 3) := by decide +kernel
theorem dX10_fingerprint_146 : decode cX10_fingerprint 146 = .ok (.ldc2_w 122, 3) := by decide +kernel
theorem dX10_fingerprint_149 : decode cX10_fingerprint 149 = .ok (.goto 10, 3) := by decide +kernel
theorem dX10_fingerprint_152 : decode cX10_fingerprint 152 = .ok (.aload_n 0, 1) := by decide +kernel
theorem dX10_fingerprint_153 : decode cX10_fingerprint 153 = .ok (.getfield 25, 3) := by decide +kernel
theorem dX10_fingerprint_156 : decode cX10_fingerprint 156 = .ok (.bipush 11, 2) := by decide +kernel
theorem dX10_fingerprint_158 : decode cX10_fingerprint 158 = .ok (.laload, 1) := by decide +kernel
theorem dX10_fingerprint_159 : decode cX10_fingerprint 159 = .ok (.ladd, 1) := by decide +kernel
theorem dX10_fingerprint_160 : decode cX10_fingerprint 160 = .ok (.lstore_n 1, 1) := by decide +kernel
theorem dX10_fingerprint_161 : decode cX10_fingerprint 161 = .ok (.ldc2_w 80, 3) := by decide +kernel
theorem dX10_fingerprint_164 : decode cX10_fingerprint 164 = .ok (.lload_n 1, 1) := by decide +kernel
theorem dX10_fingerprint_165 : decode cX10_fingerprint 165 = .ok (.lmul, 1) := by decide +kernel
theorem dX10_fingerprint_166 : decode cX10_fingerprint 166 = .ok (.aload_n 0, 1) := by decide +kernel
theorem dX10_fingerprint_167 : decode cX10_fingerprint 167 = .ok (.getfield 25, 3) := by decide +kernel
theorem dX10_fingerprint_170 : decode cX10_fingerprint 170 = .ok (.aload_n 0, 1) := by decide +kernel
theorem dX10_fingerprint_171 : decode cX10_fingerprint 171 = .ok (.getfield 7, 3) := by decide +kernel
theorem dX10_fingerprint_174 : decode cX10_fingerprint 174 = .ok (.bipush 8, 2) := by decide +kernel
theorem dX10_fingerprint_176 : decode cX10_fingerprint 176 = .ok (.iaload, 1) := by decide +kernel
theorem dX10_fingerprint_177 : decode cX10_fingerprint 177 = .ok (.invokestatic 92, 3) := by decide +kernel
theorem dX10_fingerprint_180 : decode cX10_fingerprint 180 = .ok (.ladd, 1) := by decide +kernel
theorem dX10_fingerprint_181 : decode cX10_fingerprint 181 = .ok (.lstore_n 1, 1) := by decide +kernel
theorem dX10_fingerprint_182 : decode cX10_fingerprint 182 = .ok (.iconst 0, 1) := by decide +kernel
theorem dX10_fingerprint_183 : decode cX10_fingerprint 183 = .ok (.istore_n 3, 1) := by decide +kernel
theorem dX10_fingerprint_184 : decode cX10_fingerprint 184 = .ok (.iload_n 3, 1) := by decide +kernel
theorem dX10_fingerprint_185 : decode cX10_fingerprint 185 = .ok (.iconst 3, 1) := by decide +kernel
theorem dX10_fingerprint_186 : decode cX10_fingerprint 186 = .ok (.if_icmp .ge 25, 3) := by decide +kernel
theorem dX10_fingerprint_189 : decode cX10_fingerprint 189 = .ok (.ldc2_w 80, 3) := by decide +kernel
theorem dX10_fingerprint_192 : decode cX10_fingerprint 192 = .ok (.lload_n 1, 1) := by decide +kernel
theorem dX10_fingerprint_193 : decode cX10_fingerprint 193 = .ok (.lmul, 1) := by decide +kernel
theorem dX10_fingerprint_194 : decode cX10_fingerprint 194 = .ok (.aload_n 0, 1) := by decide +kernel
theorem dX10_fingerprint_195 : decode cX10_fingerprint 195 = .ok (.getfield 25, 3) := by decide +kernel
theorem dX10_fingerprint_198 : decode cX10_fingerprint 198 = .ok (.bipush 15, 2) := by decide +kernel
theorem dX10_fingerprint_200 : decode cX10_fingerprint 200 = .ok (.iload_n 3, 1) := by decide +kernel
theorem dX10_fingerprint_201 : decode cX10_fingerprint 201 = .ok (.iadd, 1) := by decide +kernel
theorem dX10_fingerprint_202 : decode cX10_fingerprint 202 = .ok (.laload, 1) := by decide +kernel
theorem dX10_fingerprint_203 : decode cX10_fingerprint 203 = .ok (.ladd, 1) := by decide +kernel
theorem dX10_fingerprint_204 : decode cX10_fingerprint 204 = .ok (.lstore_n 1, 1) := by decide +kernel
theorem dX10_fingerprint_205 : decode cX10_fingerprint 205 = .ok (.iinc 3 1, 3) := by decide +kernel
theorem dX10_fingerprint_208 : decode cX10_fingerprint 208 = .ok (.goto (-24), 3) := by decide +kernel
theorem dX10_fingerprint_211 : decode cX10_fingerprint 211 = .ok (.iconst 0, 1) := by decide +kernel
theorem dX10_fingerprint_212 : decode cX10_fingerprint 212 = .ok (.istore_n 3, 1) := by decide +kernel
theorem dX10_fingerprint_213 : decode cX10_fingerprint 213 = .ok (.iload_n 3, 1) := by decide +kernel
theorem dX10_fingerprint_214 : decode cX10_fingerprint 214 = .ok (.iconst 4, 1) := by decide +kernel
theorem dX10_fingerprint_215 : decode cX10_fingerprint 215 = .ok (.if_icmp .ge 22, 3) := by decide +kernel
theorem dX10_fingerprint_218 : decode cX10_fingerprint 218 = .ok (.ldc2_w 80, 3) := by decide +kernel
theorem dX10_fingerprint_221 : decode cX10_fingerprint 221 = .ok (.lload_n 1, 1) := by decide +kernel
theorem dX10_fingerprint_222 : decode cX10_fingerprint 222 = .ok (.lmul, 1) := by decide +kernel
theorem dX10_fingerprint_223 : decode cX10_fingerprint 223 = .ok (.aload_n 0, 1) := by decide +kernel
theorem dX10_fingerprint_224 : decode cX10_fingerprint 224 = .ok (.iload_n 3, 1) := by decide +kernel
theorem dX10_fingerprint_225 : decode cX10_fingerprint 225 = .ok (.invokevirtual 190, 3) := by decide +kernel
theorem dX10_fingerprint_228 : decode cX10_fingerprint 228 = .ok (.i2l, 1) := by decide +kernel
theorem dX10_fingerprint_229 : decode cX10_fingerprint 229 = .ok (.ladd, 1) := by decide +kernel
theorem dX10_fingerprint_230 : decode cX10_fingerprint 230 = .ok (.lstore_n 1, 1) := by decide +kernel
theorem dX10_fingerprint_231 : decode cX10_fingerprint 231 = .ok (.iinc 3 1, 3) := by decide +kernel
theorem dX10_fingerprint_234 : decode cX10_fingerprint 234 = .ok (.goto (-21), 3) := by decide +kernel
theorem dX10_fingerprint_237 : decode cX10_fingerprint 237 = .ok (.ldc2_w 80, 3) := by decide +kernel
theorem dX10_fingerprint_240 : decode cX10_fingerprint 240 = .ok (.ldc2_w 80, 3) := by decide +kernel
theorem dX10_fingerprint_243 : decode cX10_fingerprint 243 = .ok (.lload_n 1, 1) := by decide +kernel
theorem dX10_fingerprint_244 : decode cX10_fingerprint 244 = .ok (.lmul, 1) := by decide +kernel
theorem dX10_fingerprint_245 : decode cX10_fingerprint 245 = .ok (.aload_n 0, 1) := by decide +kernel
theorem dX10_fingerprint_246 : decode cX10_fingerprint 246 = .ok (.getfield 25, 3) := by decide +kernel
theorem dX10_fingerprint_249 : decode cX10_fingerprint 249 = .ok (.bipush 21, 2) := by decide +kernel
theorem dX10_fingerprint_251 : decode cX10_fingerprint 251 = .ok (.laload, 1) := by decide +kernel
theorem dX10_fingerprint_252 : decode cX10_fingerprint 252 = .ok (.ladd, 1) := by decide +kernel
theorem dX10_fingerprint_253 : decode cX10_fingerprint 253 = .ok (.lmul, 1) := by decide +kernel
theorem dX10_fingerprint_254 : decode cX10_fingerprint 254 = .ok (.aload_n 0, 1) := by decide +kernel
theorem dX10_fingerprint_255 : decode cX10_fingerprint 255 = .ok (.getfield 25, 3) := by decide +kernel
theorem dX10_fingerprint_258 : decode cX10_fingerprint 258 = .ok (.bipush 22, 2) := by decide +kernel
theorem dX10_fingerprint_260 : decode cX10_fingerprint 260 = .ok (.laload, 1) := by decide +kernel
theorem dX10_fingerprint_261 : decode cX10_fingerprint 261 = .ok (.ladd, 1) := by decide +kernel
theorem dX10_fingerprint_262 : decode cX10_fingerprint 262 = .ok (.lreturn, 1) := by decide +kernel
def f_X10_fingerprint_b213 (r2 : Nat → Int64) : Nat → Int32 → Int64 → Int32 → Option (Int64 × Int32)
  | 0, _, _, _ => none
  | n + 1, v0_thrown, l1, l3 =>
    if 4 ≤ l3 then
      some ((31 * ((31 * l1) + (r2 21))) + (r2 22), v0_thrown)
    else
      obnd (f_X10_counted r2 l3) fun (y2 : Int32) =>
      f_X10_fingerprint_b213 r2 n v0_thrown ((31 * l1) + y2.toInt64) (l3 + 1)
def f_X10_fingerprint_b184 (r2 : Nat → Int64) : Nat → Int32 → Int64 → Int32 → Option (Int64 × Int32)
  | 0, _, _, _ => none
  | n + 1, v0_thrown, l1, l3 =>
    if 3 ≤ l3 then
      f_X10_fingerprint_b213 r2 ((((4 : Int32).toInt - (0 : Int32).toInt).toNat) + 1) v0_thrown l1 0
    else
      grd (vin (15 + l3) 760) <|
      bnd ((31 * l1) + (r2 (15 + l3).toNatClampNeg)) fun (z3 : Int64) =>
      f_X10_fingerprint_b184 r2 n v0_thrown z3 (l3 + 1)
def f_X10_fingerprint_b106 (r2 : Nat → Int64) (r3 : Nat → Int32) : Nat → Int32 → Int64 → Int32 → Option (Int64 × Int32)
  | 0, _, _, _ => none
  | n + 1, v0_thrown, l1, l3 =>
    if 5 ≤ l3 then
      if (r2 5) = 0 then
        obnd (f_X10_estimateOf r2 (r3 8)) fun (z5 : Int64) =>
        bnd ((31 * ((31 * l1) + (-1))) + z5) fun (z6 : Int64) =>
        f_X10_fingerprint_b184 r2 ((((3 : Int32).toInt - (0 : Int32).toInt).toNat) + 1) v0_thrown z6 0
      else
        obnd (f_X10_estimateOf r2 (r3 8)) fun (z3 : Int64) =>
        bnd ((31 * ((31 * l1) + (r2 11))) + z3) fun (z4 : Int64) =>
        f_X10_fingerprint_b184 r2 ((((3 : Int32).toInt - (0 : Int32).toInt).toNat) + 1) v0_thrown z4 0
    else
      obnd (f_X10_ofDownload r2 l3) fun (y7 : Int32) =>
      f_X10_fingerprint_b106 r2 r3 n v0_thrown ((31 * l1) + y7.toInt64) (l3 + 1)
def f_X10_fingerprint_b64 (r1 : Nat → Int32) (r2 : Nat → Int64) (r3 : Nat → Int32) : Nat → Int32 → Int64 → Int32 → Option (Int64 × Int32)
  | 0, _, _, _ => none
  | n + 1, v0_thrown, l1, l3 =>
    if 2 ≤ l3 then
      f_X10_fingerprint_b106 r2 r3 ((((5 : Int32).toInt - (0 : Int32).toInt).toNat) + 1) v0_thrown l1 0
    else
      if (r1 l3.toNatClampNeg) = 0 then
        f_X10_fingerprint_b64 r1 r2 r3 n v0_thrown ((31 * l1) + 0) (l3 + 1)
      else
        obnd (f_X10_bufferOf r3 r2 l3) fun (z3 : Int64) =>
        f_X10_fingerprint_b64 r1 r2 r3 n v0_thrown ((31 * l1) + z3) (l3 + 1)
def f_X10_fingerprint_b25 (v0_has : Int32) (r1 : Nat → Int32) (r2 : Nat → Int64) (r3 : Nat → Int32) (v0_thrown : Int32) (s0 s1 : Int64) : Option (Int64 × Int32) :=
  if v0_has = 0 then
    some (s0 + s1, v0_thrown)
  else
    bnd ((31 * (s0 + s1)) + (r2 0)) fun (z2 : Int64) =>
    f_X10_fingerprint_b64 r1 r2 r3 ((((2 : Int32).toInt - (0 : Int32).toInt).toNat) + 1) v0_thrown ((31 * z2) + (r2 1)) 0
def f_X10_fingerprint (v0_has : Int32) (r1 : Nat → Int32) (r2 : Nat → Int64) (r3 : Nat → Int32) : Option (Int64 × Int32) :=
  if v0_has = 0 then
    f_X10_fingerprint_b25 v0_has r1 r2 r3 0 1829 0
  else
    f_X10_fingerprint_b25 v0_has r1 r2 r3 0 1829 (r2 2)
set_option maxHeartbeats 4000000 in
set_option maxRecDepth 100000 in
theorem k_X10_fingerprint_b213 {p : Program} {l : Launch} {e : Env} {s : State} {m : MethodId} {args : Array Value} {below : List Frame} {meth : Method} {c : Code} {D : va_G} {cI cJ cC : ClassId} {h0 h1 h2 h3 kthis_rates kthis_lengths kthis_flows kthis_trial : Nat} {v0_phases v0_has : Int32} {r1 : Nat → Int32} {r2 : Nat → Int64} {r3 : Nat → Int32} {T : Int64 × Int32}{A : Nat → Prop} (S : CallFix p m c cX10_fingerprint 4 s args TB RX10) (hr : meth.sig.returnType = (some .long)) (hlk : meth.locks = false) (hK : va_K D vwCl (ty3 cI cJ cC) s) (hA : ∀ q : Nat, s.heap.size ≤ q → A q) : ∀ (n : Nat) (v0_thrown : Int32) (l1 : Int64) (l3 : Int32) (H : Heap) (locs : List Loc) (ls : Array Slot), ((4 : Int32).toInt - l3.toInt).toNat < n → f_X10_fingerprint_b213 r2 n v0_thrown l1 l3 = some T → va_P D vwCl [(h0, .inr (10, [.ref h3, .ref kthis_rates, .ref h1, .ref kthis_lengths, .ref kthis_flows, .int v0_phases, .ref h2, .ref kthis_trial, .int v0_has, .int v0_thrown])), (h1, .inl (cI, 2, .inl r1)), (h2, .inl (cJ, 760, .inr (.inl r2))), (h3, .inl (cI, 15, .inl r3))] H → va_D A [(h0, .inr (10, [.ref h3, .ref kthis_rates, .ref h1, .ref kthis_lengths, .ref kthis_flows, .int v0_phases, .ref h2, .ref kthis_trial, .int v0_has, .int v0_thrown])), (h1, .inl (cI, 2, .inl r1)), (h2, .inl (cJ, 760, .inr (.inl r2))), (h3, .inl (cI, 15, .inl r3))] → va_S A s.heap H locs → lv_has ls 4 [(0, .ref h0), (1, .long l1), (3, .int l3)] → W p l e rm_X10_fingerprint s m args below meth c H locs 0 0 (MQ below (QW (some (.long T.1)) D [(h0, .inr (10, [.ref h3, .ref kthis_rates, .ref h1, .ref kthis_lengths, .ref kthis_flows, .int v0_phases, .ref h2, .ref kthis_trial, .int v0_has, .int T.2])), (h1, .inl (cI, 2, .inl r1)), (h2, .inl (cJ, 760, .inr (.inl r2))), (h3, .inl (cI, 15, .inl r3))] A) args s 0 0 A) (F0 m 213 ls []) := by
  have hx := S.1
  have hb := S.2.1
  intro n
  induction n with
  | zero => intro v0_thrown l1 l3 H locs ls  hmu; exact absurd hmu (Nat.not_lt_zero _)
  | succ n ih =>
    intro v0_thrown l1 l3 H locs ls  hmu h hP hD hS hl
    refine lv_iload_n hx hb dX10_fingerprint_213 rfl (lv_at hl 2 rfl) ?_
    refine lv_iconst (v := 4) hx hb dX10_fingerprint_214 li_4 ?_
    refine lv_icmp_ge (tgt := 237) hx hb dX10_fingerprint_215 (by decide) (fun c1 => ?_) (fun c1 => ?_)
    · have h := iteP c1 h
      refine lv_ldc2 (v := 31) hx hb S.2.2.2.1 (S.2.2.2.2 _ tb1048) dX10_fingerprint_237 ?_
      refine lv_ldc2 (v := 31) hx hb S.2.2.2.1 (S.2.2.2.2 _ tb1048) dX10_fingerprint_240 ?_
      refine lv_lload_n hx hb dX10_fingerprint_243 rfl (lv_at hl 1 rfl) ?_
      refine lv_lmul hx hb dX10_fingerprint_244 ?_
      refine lv_aload_n hx hb dX10_fingerprint_245 rfl (lv_at hl 0 rfl) ?_
      refine gf_X10_25 (v := .ref h2) S hK hP 0 rfl rfl dX10_fingerprint_246 ?_
      refine lv_bipush (v := 21) hx hb dX10_fingerprint_249 lb_21 ?_
      refine aldJ (k := 21) (q0 := 2) S hK hP rfl vl_21_760 tn_21 dX10_fingerprint_251 ?_
      refine lv_ladd hx hb dX10_fingerprint_252 ?_
      refine lv_lmul hx hb dX10_fingerprint_253 ?_
      refine lv_aload_n hx hb dX10_fingerprint_254 rfl (lv_at hl 0 rfl) ?_
      refine gf_X10_25 (v := .ref h2) S hK hP 0 rfl rfl dX10_fingerprint_255 ?_
      refine lv_bipush (v := 22) hx hb dX10_fingerprint_258 lb_22 ?_
      refine aldJ (k := 22) (q0 := 2) S hK hP rfl vl_22_760 tn_22 dX10_fingerprint_260 ?_
      refine lv_ladd hx hb dX10_fingerprint_261 ?_
      have h := Option.some.inj h
      subst h
      exact wRl S hr hlk (hP.sub [0, 1, 2, 3] rfl) (hD.sub [0, 1, 2, 3] (by decide) rfl) hS dX10_fingerprint_262
    · have h := iteN c1 h
      refine lv_ldc2 (v := 31) hx hb S.2.2.2.1 (S.2.2.2.2 _ tb1048) dX10_fingerprint_218 ?_
      refine lv_lload_n hx hb dX10_fingerprint_221 rfl (lv_at hl 1 rfl) ?_
      refine lv_lmul hx hb dX10_fingerprint_222 ?_
      refine lv_aload_n hx hb dX10_fingerprint_223 rfl (lv_at hl 0 rfl) ?_
      refine lv_iload_n hx hb dX10_fingerprint_224 rfl (lv_at hl 2 rfl) ?_
      obtain ⟨y2, e_y2, h⟩ := obnd_eq h
      refine rdV (pc1 := 228) (rest := [.long (31 * l1)]) (st1 := [.int y2, .long (31 * l1)]) S (c_X10_counted l D cI cJ cC h0 h2 h3 kthis_rates h1 kthis_lengths kthis_flows kthis_trial v0_phases v0_has v0_thrown r2 l3 y2 e_y2) (cw_X10_190 S.2.2.2.2 ⟨Nat.le_of_ble_eq_true rfl, Nat.le_of_ble_eq_true rfl⟩) hK (hP.sub [0, 2] rfl) rfl rfl rfl rfl hl.1 rfl (Nat.le_of_ble_eq_true rfl) ⟨Nat.zero_le _, Nat.zero_le _⟩ rfl rfl dX10_fingerprint_225 ?_
      refine lv_i2l hx hb dX10_fingerprint_228 rfl ?_
      refine lv_ladd hx hb dX10_fingerprint_229 ?_
      refine lv_lstore_n (lv' := [(1, .long ((31 * l1) + y2.toInt64)), (0, .ref h0), (3, .int l3)]) hx hb dX10_fingerprint_230 rfl hl (by decide) rfl (fun ls hl => ?_)
      refine lv_iinc (v := l3 + 1) (lv' := [(3, .int (l3 + 1)), (1, .long ((31 * l1) + y2.toInt64)), (0, .ref h0)]) hx hb dX10_fingerprint_231 hl (k := 2) rfl rfl (by decide) rfl (fun ls hl => ?_)
      refine lv_goto (tgt := 213) hx hb dX10_fingerprint_234 (by decide) ?_
      exact ih v0_thrown ((31 * l1) + y2.toInt64) (l3 + 1) _ _ _ (by first | exact mu_upA (by assumption) hmu | exact mu_upB (by assumption) hmu) h (hP.sub [0, 1, 2, 3] rfl) (hD.sub [0, 1, 2, 3] (by decide) rfl) hS (lv_sub hl [2, 1, 0] rfl)
set_option maxHeartbeats 4000000 in
set_option maxRecDepth 100000 in
theorem k_X10_fingerprint_b184 {p : Program} {l : Launch} {e : Env} {s : State} {m : MethodId} {args : Array Value} {below : List Frame} {meth : Method} {c : Code} {D : va_G} {cI cJ cC : ClassId} {h0 h1 h2 h3 kthis_rates kthis_lengths kthis_flows kthis_trial : Nat} {v0_phases v0_has : Int32} {r1 : Nat → Int32} {r2 : Nat → Int64} {r3 : Nat → Int32} {T : Int64 × Int32}{A : Nat → Prop} (S : CallFix p m c cX10_fingerprint 4 s args TB RX10) (hr : meth.sig.returnType = (some .long)) (hlk : meth.locks = false) (hK : va_K D vwCl (ty3 cI cJ cC) s) (hA : ∀ q : Nat, s.heap.size ≤ q → A q) : ∀ (n : Nat) (v0_thrown : Int32) (l1 : Int64) (l3 : Int32) (H : Heap) (locs : List Loc) (ls : Array Slot), ((3 : Int32).toInt - l3.toInt).toNat < n → f_X10_fingerprint_b184 r2 n v0_thrown l1 l3 = some T → va_P D vwCl [(h0, .inr (10, [.ref h3, .ref kthis_rates, .ref h1, .ref kthis_lengths, .ref kthis_flows, .int v0_phases, .ref h2, .ref kthis_trial, .int v0_has, .int v0_thrown])), (h1, .inl (cI, 2, .inl r1)), (h2, .inl (cJ, 760, .inr (.inl r2))), (h3, .inl (cI, 15, .inl r3))] H → va_D A [(h0, .inr (10, [.ref h3, .ref kthis_rates, .ref h1, .ref kthis_lengths, .ref kthis_flows, .int v0_phases, .ref h2, .ref kthis_trial, .int v0_has, .int v0_thrown])), (h1, .inl (cI, 2, .inl r1)), (h2, .inl (cJ, 760, .inr (.inl r2))), (h3, .inl (cI, 15, .inl r3))] → va_S A s.heap H locs → lv_has ls 4 [(0, .ref h0), (1, .long l1), (3, .int l3)] → W p l e rm_X10_fingerprint s m args below meth c H locs 0 0 (MQ below (QW (some (.long T.1)) D [(h0, .inr (10, [.ref h3, .ref kthis_rates, .ref h1, .ref kthis_lengths, .ref kthis_flows, .int v0_phases, .ref h2, .ref kthis_trial, .int v0_has, .int T.2])), (h1, .inl (cI, 2, .inl r1)), (h2, .inl (cJ, 760, .inr (.inl r2))), (h3, .inl (cI, 15, .inl r3))] A) args s 0 0 A) (F0 m 184 ls []) := by
  have hx := S.1
  have hb := S.2.1
  intro n
  induction n with
  | zero => intro v0_thrown l1 l3 H locs ls  hmu; exact absurd hmu (Nat.not_lt_zero _)
  | succ n ih =>
    intro v0_thrown l1 l3 H locs ls  hmu h hP hD hS hl
    refine lv_iload_n hx hb dX10_fingerprint_184 rfl (lv_at hl 2 rfl) ?_
    refine lv_iconst (v := 3) hx hb dX10_fingerprint_185 li_3 ?_
    refine lv_icmp_ge (tgt := 211) hx hb dX10_fingerprint_186 (by decide) (fun c1 => ?_) (fun c1 => ?_)
    · have h := iteP c1 h
      refine lv_iconst (v := 0) hx hb dX10_fingerprint_211 li_0 ?_
      refine lv_istore_n (lv' := [(3, .int 0), (0, .ref h0), (1, .long l1)]) hx hb dX10_fingerprint_212 rfl hl (by decide) rfl (fun ls hl => ?_)
      exact k_X10_fingerprint_b213 S hr hlk hK hA _ v0_thrown l1 0 _ _ _ (Nat.lt_succ_self _) h (hP.sub [0, 1, 2, 3] rfl) (hD.sub [0, 1, 2, 3] (by decide) rfl) hS (lv_sub hl [1, 2, 0] rfl)
    · have h := iteN c1 h
      refine lv_ldc2 (v := 31) hx hb S.2.2.2.1 (S.2.2.2.2 _ tb1048) dX10_fingerprint_189 ?_
      refine lv_lload_n hx hb dX10_fingerprint_192 rfl (lv_at hl 1 rfl) ?_
      refine lv_lmul hx hb dX10_fingerprint_193 ?_
      refine lv_aload_n hx hb dX10_fingerprint_194 rfl (lv_at hl 0 rfl) ?_
      refine gf_X10_25 (v := .ref h2) S hK hP 0 rfl rfl dX10_fingerprint_195 ?_
      refine lv_bipush (v := 15) hx hb dX10_fingerprint_198 lb_15 ?_
      refine lv_iload_n hx hb dX10_fingerprint_200 rfl (lv_at hl 2 rfl) ?_
      refine lv_iadd hx hb dX10_fingerprint_201 ?_
      obtain ⟨g2, h⟩ := grd_eq h
      refine aldJ (k := (15 + l3).toNatClampNeg) (q0 := 2) S hK hP rfl (vin_in g2) rfl dX10_fingerprint_202 ?_
      refine lv_ladd hx hb dX10_fingerprint_203 ?_
      refine lv_topl (fun z3 e_z3 => ?_)
      have h := bnd_eq e_z3.symm h
      refine lv_lstore_n (lv' := [(1, .long z3), (0, .ref h0), (3, .int l3)]) hx hb dX10_fingerprint_204 rfl hl (by decide) rfl (fun ls hl => ?_)
      refine lv_iinc (v := l3 + 1) (lv' := [(3, .int (l3 + 1)), (1, .long z3), (0, .ref h0)]) hx hb dX10_fingerprint_205 hl (k := 2) rfl rfl (by decide) rfl (fun ls hl => ?_)
      refine lv_goto (tgt := 184) hx hb dX10_fingerprint_208 (by decide) ?_
      exact ih v0_thrown z3 (l3 + 1) _ _ _ (by first | exact mu_upA (by assumption) hmu | exact mu_upB (by assumption) hmu) h (hP.sub [0, 1, 2, 3] rfl) (hD.sub [0, 1, 2, 3] (by decide) rfl) hS (lv_sub hl [2, 1, 0] rfl)
set_option maxHeartbeats 4000000 in
set_option maxRecDepth 100000 in
theorem k_X10_fingerprint_b106 {p : Program} {l : Launch} {e : Env} {s : State} {m : MethodId} {args : Array Value} {below : List Frame} {meth : Method} {c : Code} {D : va_G} {cI cJ cC : ClassId} {h0 h1 h2 h3 kthis_rates kthis_lengths kthis_flows kthis_trial : Nat} {v0_phases v0_has : Int32} {r1 : Nat → Int32} {r2 : Nat → Int64} {r3 : Nat → Int32} {T : Int64 × Int32}{A : Nat → Prop} (S : CallFix p m c cX10_fingerprint 4 s args TB RX10) (hr : meth.sig.returnType = (some .long)) (hlk : meth.locks = false) (hK : va_K D vwCl (ty3 cI cJ cC) s) (hA : ∀ q : Nat, s.heap.size ≤ q → A q) : ∀ (n : Nat) (v0_thrown : Int32) (l1 : Int64) (l3 : Int32) (H : Heap) (locs : List Loc) (ls : Array Slot), ((5 : Int32).toInt - l3.toInt).toNat < n → f_X10_fingerprint_b106 r2 r3 n v0_thrown l1 l3 = some T → va_P D vwCl [(h0, .inr (10, [.ref h3, .ref kthis_rates, .ref h1, .ref kthis_lengths, .ref kthis_flows, .int v0_phases, .ref h2, .ref kthis_trial, .int v0_has, .int v0_thrown])), (h1, .inl (cI, 2, .inl r1)), (h2, .inl (cJ, 760, .inr (.inl r2))), (h3, .inl (cI, 15, .inl r3))] H → va_D A [(h0, .inr (10, [.ref h3, .ref kthis_rates, .ref h1, .ref kthis_lengths, .ref kthis_flows, .int v0_phases, .ref h2, .ref kthis_trial, .int v0_has, .int v0_thrown])), (h1, .inl (cI, 2, .inl r1)), (h2, .inl (cJ, 760, .inr (.inl r2))), (h3, .inl (cI, 15, .inl r3))] → va_S A s.heap H locs → lv_has ls 4 [(0, .ref h0), (1, .long l1), (3, .int l3)] → W p l e rm_X10_fingerprint s m args below meth c H locs 0 0 (MQ below (QW (some (.long T.1)) D [(h0, .inr (10, [.ref h3, .ref kthis_rates, .ref h1, .ref kthis_lengths, .ref kthis_flows, .int v0_phases, .ref h2, .ref kthis_trial, .int v0_has, .int T.2])), (h1, .inl (cI, 2, .inl r1)), (h2, .inl (cJ, 760, .inr (.inl r2))), (h3, .inl (cI, 15, .inl r3))] A) args s 0 0 A) (F0 m 106 ls []) := by
  have hx := S.1
  have hb := S.2.1
  intro n
  induction n with
  | zero => intro v0_thrown l1 l3 H locs ls  hmu; exact absurd hmu (Nat.not_lt_zero _)
  | succ n ih =>
    intro v0_thrown l1 l3 H locs ls  hmu h hP hD hS hl
    refine lv_iload_n hx hb dX10_fingerprint_106 rfl (lv_at hl 2 rfl) ?_
    refine lv_iconst (v := 5) hx hb dX10_fingerprint_107 li_5 ?_
    refine lv_icmp_ge (tgt := 130) hx hb dX10_fingerprint_108 (by decide) (fun c1 => ?_) (fun c1 => ?_)
    · have h := iteP c1 h
      refine lv_ldc2 (v := 31) hx hb S.2.2.2.1 (S.2.2.2.2 _ tb1048) dX10_fingerprint_130 ?_
      refine lv_lload_n hx hb dX10_fingerprint_133 rfl (lv_at hl 1 rfl) ?_
      refine lv_lmul hx hb dX10_fingerprint_134 ?_
      refine lv_aload_n hx hb dX10_fingerprint_135 rfl (lv_at hl 0 rfl) ?_
      refine gf_X10_25 (v := .ref h2) S hK hP 0 rfl rfl dX10_fingerprint_136 ?_
      refine lv_iconst (v := 5) hx hb dX10_fingerprint_139 li_5 ?_
      refine aldJ (k := 5) (q0 := 2) S hK hP rfl vl_5_760 tn_5 dX10_fingerprint_140 ?_
      refine lv_lconst (v := 0) hx hb dX10_fingerprint_141 rfl ?_
      refine lc_ne (tgt := 152) hx hb dX10_fingerprint_142 dX10_fingerprint_143 (by decide) (fun c2 => ?_) (fun c2 => ?_)
      · have h := iteN c2 h
        refine lv_aload_n hx hb dX10_fingerprint_152 rfl (lv_at hl 0 rfl) ?_
        refine gf_X10_25 (v := .ref h2) S hK hP 0 rfl rfl dX10_fingerprint_153 ?_
        refine lv_bipush (v := 11) hx hb dX10_fingerprint_156 lb_11 ?_
        refine aldJ (k := 11) (q0 := 2) S hK hP rfl vl_11_760 tn_11 dX10_fingerprint_158 ?_
        refine lv_ladd hx hb dX10_fingerprint_159 ?_
        refine lv_lstore_n (lv' := [(1, .long ((31 * l1) + (r2 11))), (0, .ref h0), (3, .int l3)]) hx hb dX10_fingerprint_160 rfl hl (by decide) rfl (fun ls hl => ?_)
        refine lv_ldc2 (v := 31) hx hb S.2.2.2.1 (S.2.2.2.2 _ tb1048) dX10_fingerprint_161 ?_
        refine lv_lload_n hx hb dX10_fingerprint_164 rfl (lv_at hl 0 rfl) ?_
        refine lv_lmul hx hb dX10_fingerprint_165 ?_
        refine lv_aload_n hx hb dX10_fingerprint_166 rfl (lv_at hl 1 rfl) ?_
        refine gf_X10_25 (v := .ref h2) S hK hP 0 rfl rfl dX10_fingerprint_167 ?_
        refine lv_aload_n hx hb dX10_fingerprint_170 rfl (lv_at hl 1 rfl) ?_
        refine gf_X10_7 (v := .ref h3) S hK hP 0 rfl rfl dX10_fingerprint_171 ?_
        refine lv_bipush (v := 8) hx hb dX10_fingerprint_174 lb_8 ?_
        refine aldI (k := 8) (q0 := 3) S hK hP rfl vl_8_15 tn_8 dX10_fingerprint_176 ?_
        obtain ⟨z3, e_z3, h⟩ := obnd_eq h
        refine rdS (pc1 := 180) (rest := [.long (31 * ((31 * l1) + (r2 11)))]) (st1 := [.long z3, .long (31 * ((31 * l1) + (r2 11)))]) S (c_X10_estimateOf l D cI cJ cC h2 r2 (r3 8) z3 e_z3) (cw_X10_92 S.2.2.2.2 ⟨Nat.le_of_ble_eq_true rfl, Nat.le_of_ble_eq_true rfl⟩) hK (hP.sub [2] rfl) rfl hl.1 rfl (Nat.le_of_ble_eq_true rfl) ⟨Nat.zero_le _, Nat.zero_le _⟩ rfl rfl dX10_fingerprint_177 ?_
        refine lv_ladd hx hb dX10_fingerprint_180 ?_
        refine lv_topl (fun z4 e_z4 => ?_)
        have h := bnd_eq e_z4.symm h
        refine lv_lstore_n (lv' := [(1, .long z4), (0, .ref h0), (3, .int l3)]) hx hb dX10_fingerprint_181 rfl hl (by decide) rfl (fun ls hl => ?_)
        refine lv_iconst (v := 0) hx hb dX10_fingerprint_182 li_0 ?_
        refine lv_istore_n (lv' := [(3, .int 0), (1, .long z4), (0, .ref h0)]) hx hb dX10_fingerprint_183 rfl hl (by decide) rfl (fun ls hl => ?_)
        exact k_X10_fingerprint_b184 S hr hlk hK hA _ v0_thrown z4 0 _ _ _ (Nat.lt_succ_self _) h (hP.sub [0, 1, 2, 3] rfl) (hD.sub [0, 1, 2, 3] (by decide) rfl) hS (lv_sub hl [2, 1, 0] rfl)
      · have h := iteP c2 h
        refine lv_ldc2 (v := (-1)) hx hb S.2.2.2.1 (S.2.2.2.2 _ tb1060) dX10_fingerprint_146 ?_
        refine lv_goto (tgt := 159) hx hb dX10_fingerprint_149 (by decide) ?_
        refine lv_ladd hx hb dX10_fingerprint_159 ?_
        refine lv_lstore_n (lv' := [(1, .long ((31 * l1) + (-1))), (0, .ref h0), (3, .int l3)]) hx hb dX10_fingerprint_160 rfl hl (by decide) rfl (fun ls hl => ?_)
        refine lv_ldc2 (v := 31) hx hb S.2.2.2.1 (S.2.2.2.2 _ tb1048) dX10_fingerprint_161 ?_
        refine lv_lload_n hx hb dX10_fingerprint_164 rfl (lv_at hl 0 rfl) ?_
        refine lv_lmul hx hb dX10_fingerprint_165 ?_
        refine lv_aload_n hx hb dX10_fingerprint_166 rfl (lv_at hl 1 rfl) ?_
        refine gf_X10_25 (v := .ref h2) S hK hP 0 rfl rfl dX10_fingerprint_167 ?_
        refine lv_aload_n hx hb dX10_fingerprint_170 rfl (lv_at hl 1 rfl) ?_
        refine gf_X10_7 (v := .ref h3) S hK hP 0 rfl rfl dX10_fingerprint_171 ?_
        refine lv_bipush (v := 8) hx hb dX10_fingerprint_174 lb_8 ?_
        refine aldI (k := 8) (q0 := 3) S hK hP rfl vl_8_15 tn_8 dX10_fingerprint_176 ?_
        obtain ⟨z5, e_z5, h⟩ := obnd_eq h
        refine rdS (pc1 := 180) (rest := [.long (31 * ((31 * l1) + (-1)))]) (st1 := [.long z5, .long (31 * ((31 * l1) + (-1)))]) S (c_X10_estimateOf l D cI cJ cC h2 r2 (r3 8) z5 e_z5) (cw_X10_92 S.2.2.2.2 ⟨Nat.le_of_ble_eq_true rfl, Nat.le_of_ble_eq_true rfl⟩) hK (hP.sub [2] rfl) rfl hl.1 rfl (Nat.le_of_ble_eq_true rfl) ⟨Nat.zero_le _, Nat.zero_le _⟩ rfl rfl dX10_fingerprint_177 ?_
        refine lv_ladd hx hb dX10_fingerprint_180 ?_
        refine lv_topl (fun z6 e_z6 => ?_)
        have h := bnd_eq e_z6.symm h
        refine lv_lstore_n (lv' := [(1, .long z6), (0, .ref h0), (3, .int l3)]) hx hb dX10_fingerprint_181 rfl hl (by decide) rfl (fun ls hl => ?_)
        refine lv_iconst (v := 0) hx hb dX10_fingerprint_182 li_0 ?_
        refine lv_istore_n (lv' := [(3, .int 0), (1, .long z6), (0, .ref h0)]) hx hb dX10_fingerprint_183 rfl hl (by decide) rfl (fun ls hl => ?_)
        exact k_X10_fingerprint_b184 S hr hlk hK hA _ v0_thrown z6 0 _ _ _ (Nat.lt_succ_self _) h (hP.sub [0, 1, 2, 3] rfl) (hD.sub [0, 1, 2, 3] (by decide) rfl) hS (lv_sub hl [2, 1, 0] rfl)
    · have h := iteN c1 h
      refine lv_ldc2 (v := 31) hx hb S.2.2.2.1 (S.2.2.2.2 _ tb1048) dX10_fingerprint_111 ?_
      refine lv_lload_n hx hb dX10_fingerprint_114 rfl (lv_at hl 1 rfl) ?_
      refine lv_lmul hx hb dX10_fingerprint_115 ?_
      refine lv_aload_n hx hb dX10_fingerprint_116 rfl (lv_at hl 0 rfl) ?_
      refine lv_iload_n hx hb dX10_fingerprint_117 rfl (lv_at hl 2 rfl) ?_
      obtain ⟨y7, e_y7, h⟩ := obnd_eq h
      refine rdV (pc1 := 121) (rest := [.long (31 * l1)]) (st1 := [.int y7, .long (31 * l1)]) S (c_X10_ofDownload l D cI cJ cC h0 h2 h3 kthis_rates h1 kthis_lengths kthis_flows kthis_trial v0_phases v0_has v0_thrown r2 l3 y7 e_y7) (cw_X10_187 S.2.2.2.2 ⟨Nat.le_of_ble_eq_true rfl, Nat.le_of_ble_eq_true rfl⟩) hK (hP.sub [0, 2] rfl) rfl rfl rfl rfl hl.1 rfl (Nat.le_of_ble_eq_true rfl) ⟨Nat.zero_le _, Nat.zero_le _⟩ rfl rfl dX10_fingerprint_118 ?_
      refine lv_i2l hx hb dX10_fingerprint_121 rfl ?_
      refine lv_ladd hx hb dX10_fingerprint_122 ?_
      refine lv_lstore_n (lv' := [(1, .long ((31 * l1) + y7.toInt64)), (0, .ref h0), (3, .int l3)]) hx hb dX10_fingerprint_123 rfl hl (by decide) rfl (fun ls hl => ?_)
      refine lv_iinc (v := l3 + 1) (lv' := [(3, .int (l3 + 1)), (1, .long ((31 * l1) + y7.toInt64)), (0, .ref h0)]) hx hb dX10_fingerprint_124 hl (k := 2) rfl rfl (by decide) rfl (fun ls hl => ?_)
      refine lv_goto (tgt := 106) hx hb dX10_fingerprint_127 (by decide) ?_
      exact ih v0_thrown ((31 * l1) + y7.toInt64) (l3 + 1) _ _ _ (by first | exact mu_upA (by assumption) hmu | exact mu_upB (by assumption) hmu) h (hP.sub [0, 1, 2, 3] rfl) (hD.sub [0, 1, 2, 3] (by decide) rfl) hS (lv_sub hl [2, 1, 0] rfl)
set_option maxHeartbeats 4000000 in
set_option maxRecDepth 100000 in
theorem k_X10_fingerprint_b64 {p : Program} {l : Launch} {e : Env} {s : State} {m : MethodId} {args : Array Value} {below : List Frame} {meth : Method} {c : Code} {D : va_G} {cI cJ cC : ClassId} {h0 h1 h2 h3 kthis_rates kthis_lengths kthis_flows kthis_trial : Nat} {v0_phases v0_has : Int32} {r1 : Nat → Int32} {r2 : Nat → Int64} {r3 : Nat → Int32} {T : Int64 × Int32}{A : Nat → Prop} (S : CallFix p m c cX10_fingerprint 4 s args TB RX10) (hr : meth.sig.returnType = (some .long)) (hlk : meth.locks = false) (hK : va_K D vwCl (ty3 cI cJ cC) s) (hA : ∀ q : Nat, s.heap.size ≤ q → A q) : ∀ (n : Nat) (v0_thrown : Int32) (l1 : Int64) (l3 : Int32) (H : Heap) (locs : List Loc) (ls : Array Slot), 0 ≤ l3 → ((2 : Int32).toInt - l3.toInt).toNat < n → f_X10_fingerprint_b64 r1 r2 r3 n v0_thrown l1 l3 = some T → va_P D vwCl [(h0, .inr (10, [.ref h3, .ref kthis_rates, .ref h1, .ref kthis_lengths, .ref kthis_flows, .int v0_phases, .ref h2, .ref kthis_trial, .int v0_has, .int v0_thrown])), (h1, .inl (cI, 2, .inl r1)), (h2, .inl (cJ, 760, .inr (.inl r2))), (h3, .inl (cI, 15, .inl r3))] H → va_D A [(h0, .inr (10, [.ref h3, .ref kthis_rates, .ref h1, .ref kthis_lengths, .ref kthis_flows, .int v0_phases, .ref h2, .ref kthis_trial, .int v0_has, .int v0_thrown])), (h1, .inl (cI, 2, .inl r1)), (h2, .inl (cJ, 760, .inr (.inl r2))), (h3, .inl (cI, 15, .inl r3))] → va_S A s.heap H locs → lv_has ls 4 [(0, .ref h0), (1, .long l1), (3, .int l3)] → W p l e rm_X10_fingerprint s m args below meth c H locs 0 0 (MQ below (QW (some (.long T.1)) D [(h0, .inr (10, [.ref h3, .ref kthis_rates, .ref h1, .ref kthis_lengths, .ref kthis_flows, .int v0_phases, .ref h2, .ref kthis_trial, .int v0_has, .int T.2])), (h1, .inl (cI, 2, .inl r1)), (h2, .inl (cJ, 760, .inr (.inl r2))), (h3, .inl (cI, 15, .inl r3))] A) args s 0 0 A) (F0 m 64 ls []) := by
  have hx := S.1
  have hb := S.2.1
  intro n
  induction n with
  | zero => intro v0_thrown l1 l3 H locs ls hi0 hmu; exact absurd hmu (Nat.not_lt_zero _)
  | succ n ih =>
    intro v0_thrown l1 l3 H locs ls hi0 hmu h hP hD hS hl
    refine lv_iload_n hx hb dX10_fingerprint_64 rfl (lv_at hl 2 rfl) ?_
    refine lv_iconst (v := 2) hx hb dX10_fingerprint_65 li_2 ?_
    refine lv_icmp_ge (tgt := 104) hx hb dX10_fingerprint_66 (by decide) (fun c1 => ?_) (fun c1 => ?_)
    · have h := iteP c1 h
      refine lv_iconst (v := 0) hx hb dX10_fingerprint_104 li_0 ?_
      refine lv_istore_n (lv' := [(3, .int 0), (0, .ref h0), (1, .long l1)]) hx hb dX10_fingerprint_105 rfl hl (by decide) rfl (fun ls hl => ?_)
      exact k_X10_fingerprint_b106 S hr hlk hK hA _ v0_thrown l1 0 _ _ _ (Nat.lt_succ_self _) h (hP.sub [0, 1, 2, 3] rfl) (hD.sub [0, 1, 2, 3] (by decide) rfl) hS (lv_sub hl [1, 2, 0] rfl)
    · have h := iteN c1 h
      refine lv_ldc2 (v := 31) hx hb S.2.2.2.1 (S.2.2.2.2 _ tb1048) dX10_fingerprint_69 ?_
      refine lv_lload_n hx hb dX10_fingerprint_72 rfl (lv_at hl 1 rfl) ?_
      refine lv_lmul hx hb dX10_fingerprint_73 ?_
      refine lv_aload_n hx hb dX10_fingerprint_74 rfl (lv_at hl 0 rfl) ?_
      refine gf_X10_16 (v := .ref h1) S hK hP 0 rfl rfl dX10_fingerprint_75 ?_
      refine lv_iload_n hx hb dX10_fingerprint_78 rfl (lv_at hl 2 rfl) ?_
      refine aldI (k := l3.toNatClampNeg) (q0 := 1) S hK hP rfl (vpb hi0 (nle32 c1) rfl) rfl dX10_fingerprint_79 ?_
      refine lv_if_ne (tgt := 87) hx hb dX10_fingerprint_80 (by decide) (fun c2 => ?_) (fun c2 => ?_)
      · have h := iteN c2 h
        refine lv_aload_n hx hb dX10_fingerprint_87 rfl (lv_at hl 0 rfl) ?_
        refine lv_aload_n hx hb dX10_fingerprint_88 rfl (lv_at hl 0 rfl) ?_
        refine gf_X10_25 (v := .ref h2) S hK hP 0 rfl rfl dX10_fingerprint_89 ?_
        refine lv_iload_n hx hb dX10_fingerprint_92 rfl (lv_at hl 2 rfl) ?_
        obtain ⟨z3, e_z3, h⟩ := obnd_eq h
        refine rdV (pc1 := 96) (rest := [.long (31 * l1)]) (st1 := [.long z3, .long (31 * l1)]) S (c_X10_bufferOf l D cI cJ cC h0 h3 h2 kthis_rates h1 kthis_lengths kthis_flows h2 kthis_trial v0_phases v0_has v0_thrown r3 r2 l3 z3 e_z3) (cw_X10_88 S.2.2.2.2 ⟨Nat.le_of_ble_eq_true rfl, Nat.le_of_ble_eq_true rfl⟩) hK (hP.sub [0, 3, 2] rfl) rfl rfl rfl rfl hl.1 rfl (Nat.le_of_ble_eq_true rfl) ⟨Nat.zero_le _, Nat.zero_le _⟩ rfl rfl dX10_fingerprint_93 ?_
        refine lv_ladd hx hb dX10_fingerprint_96 ?_
        refine lv_lstore_n (lv' := [(1, .long ((31 * l1) + z3)), (0, .ref h0), (3, .int l3)]) hx hb dX10_fingerprint_97 rfl hl (by decide) rfl (fun ls hl => ?_)
        refine lv_iinc (v := l3 + 1) (lv' := [(3, .int (l3 + 1)), (1, .long ((31 * l1) + z3)), (0, .ref h0)]) hx hb dX10_fingerprint_98 hl (k := 2) rfl rfl (by decide) rfl (fun ls hl => ?_)
        refine lv_goto (tgt := 64) hx hb dX10_fingerprint_101 (by decide) ?_
        exact ih v0_thrown ((31 * l1) + z3) (l3 + 1) _ _ _ (by first | exact inc_nn hi0 (by assumption) | exact inc_nn hi0 (nle32 (by assumption))) (by first | exact mu_upA (by assumption) hmu | exact mu_upB (by assumption) hmu) h (hP.sub [0, 1, 2, 3] rfl) (hD.sub [0, 1, 2, 3] (by decide) rfl) hS (lv_sub hl [2, 1, 0] rfl)
      · have h := iteP c2 h
        refine lv_lconst (v := 0) hx hb dX10_fingerprint_83 rfl ?_
        refine lv_goto (tgt := 96) hx hb dX10_fingerprint_84 (by decide) ?_
        refine lv_ladd hx hb dX10_fingerprint_96 ?_
        refine lv_lstore_n (lv' := [(1, .long ((31 * l1) + 0)), (0, .ref h0), (3, .int l3)]) hx hb dX10_fingerprint_97 rfl hl (by decide) rfl (fun ls hl => ?_)
        refine lv_iinc (v := l3 + 1) (lv' := [(3, .int (l3 + 1)), (1, .long ((31 * l1) + 0)), (0, .ref h0)]) hx hb dX10_fingerprint_98 hl (k := 2) rfl rfl (by decide) rfl (fun ls hl => ?_)
        refine lv_goto (tgt := 64) hx hb dX10_fingerprint_101 (by decide) ?_
        exact ih v0_thrown ((31 * l1) + 0) (l3 + 1) _ _ _ (by first | exact inc_nn hi0 (by assumption) | exact inc_nn hi0 (nle32 (by assumption))) (by first | exact mu_upA (by assumption) hmu | exact mu_upB (by assumption) hmu) h (hP.sub [0, 1, 2, 3] rfl) (hD.sub [0, 1, 2, 3] (by decide) rfl) hS (lv_sub hl [2, 1, 0] rfl)
set_option maxHeartbeats 4000000 in
set_option maxRecDepth 100000 in
theorem k_X10_fingerprint_b25 {p : Program} {l : Launch} {e : Env} {s : State} {m : MethodId} {args : Array Value} {below : List Frame} {meth : Method} {c : Code} {D : va_G} {cI cJ cC : ClassId} {h0 h1 h2 h3 kthis_rates kthis_lengths kthis_flows kthis_trial : Nat} {v0_phases v0_has : Int32} {r1 : Nat → Int32} {r2 : Nat → Int64} {r3 : Nat → Int32} {T : Int64 × Int32}{A : Nat → Prop} (S : CallFix p m c cX10_fingerprint 4 s args TB RX10) (hr : meth.sig.returnType = (some .long)) (hlk : meth.locks = false) (hK : va_K D vwCl (ty3 cI cJ cC) s) (hA : ∀ q : Nat, s.heap.size ≤ q → A q) : ∀ (v0_thrown : Int32) (s0 s1 : Int64) (H : Heap) (locs : List Loc) (ls : Array Slot), f_X10_fingerprint_b25 v0_has r1 r2 r3 v0_thrown s0 s1 = some T → va_P D vwCl [(h0, .inr (10, [.ref h3, .ref kthis_rates, .ref h1, .ref kthis_lengths, .ref kthis_flows, .int v0_phases, .ref h2, .ref kthis_trial, .int v0_has, .int v0_thrown])), (h1, .inl (cI, 2, .inl r1)), (h2, .inl (cJ, 760, .inr (.inl r2))), (h3, .inl (cI, 15, .inl r3))] H → va_D A [(h0, .inr (10, [.ref h3, .ref kthis_rates, .ref h1, .ref kthis_lengths, .ref kthis_flows, .int v0_phases, .ref h2, .ref kthis_trial, .int v0_has, .int v0_thrown])), (h1, .inl (cI, 2, .inl r1)), (h2, .inl (cJ, 760, .inr (.inl r2))), (h3, .inl (cI, 15, .inl r3))] → va_S A s.heap H locs → lv_has ls 4 [(0, .ref h0)] → W p l e rm_X10_fingerprint s m args below meth c H locs 0 0 (MQ below (QW (some (.long T.1)) D [(h0, .inr (10, [.ref h3, .ref kthis_rates, .ref h1, .ref kthis_lengths, .ref kthis_flows, .int v0_phases, .ref h2, .ref kthis_trial, .int v0_has, .int T.2])), (h1, .inl (cI, 2, .inl r1)), (h2, .inl (cJ, 760, .inr (.inl r2))), (h3, .inl (cI, 15, .inl r3))] A) args s 0 0 A) (F0 m 25 ls [.long s1, .long s0]) := by
  have hx := S.1
  have hb := S.2.1
  intro v0_thrown s0 s1 H locs ls h hP hD hS hl
  refine lv_ladd hx hb dX10_fingerprint_25 ?_
  refine lv_lstore_n (lv' := [(1, .long (s0 + s1)), (0, .ref h0)]) hx hb dX10_fingerprint_26 rfl hl (by decide) rfl (fun ls hl => ?_)
  refine lv_aload_n hx hb dX10_fingerprint_27 rfl (lv_at hl 1 rfl) ?_
  refine gf_X10_53 (v := .int v0_has) S hK hP 0 rfl rfl dX10_fingerprint_28 ?_
  refine lv_if_ne (tgt := 36) hx hb dX10_fingerprint_31 (by decide) (fun c1 => ?_) (fun c1 => ?_)
  · have h := iteN c1 h
    refine lv_ldc2 (v := 31) hx hb S.2.2.2.1 (S.2.2.2.2 _ tb1048) dX10_fingerprint_36 ?_
    refine lv_lload_n hx hb dX10_fingerprint_39 rfl (lv_at hl 0 rfl) ?_
    refine lv_lmul hx hb dX10_fingerprint_40 ?_
    refine lv_aload_n hx hb dX10_fingerprint_41 rfl (lv_at hl 1 rfl) ?_
    refine gf_X10_25 (v := .ref h2) S hK hP 0 rfl rfl dX10_fingerprint_42 ?_
    refine lv_iconst (v := 0) hx hb dX10_fingerprint_45 li_0 ?_
    refine aldJ (k := 0) (q0 := 2) S hK hP rfl vl_0_760 tn_0 dX10_fingerprint_46 ?_
    refine lv_ladd hx hb dX10_fingerprint_47 ?_
    refine lv_topl (fun z2 e_z2 => ?_)
    have h := bnd_eq e_z2.symm h
    refine lv_lstore_n (lv' := [(1, .long z2), (0, .ref h0)]) hx hb dX10_fingerprint_48 rfl hl (by decide) rfl (fun ls hl => ?_)
    refine lv_ldc2 (v := 31) hx hb S.2.2.2.1 (S.2.2.2.2 _ tb1048) dX10_fingerprint_49 ?_
    refine lv_lload_n hx hb dX10_fingerprint_52 rfl (lv_at hl 0 rfl) ?_
    refine lv_lmul hx hb dX10_fingerprint_53 ?_
    refine lv_aload_n hx hb dX10_fingerprint_54 rfl (lv_at hl 1 rfl) ?_
    refine gf_X10_25 (v := .ref h2) S hK hP 0 rfl rfl dX10_fingerprint_55 ?_
    refine lv_iconst (v := 1) hx hb dX10_fingerprint_58 li_1 ?_
    refine aldJ (k := 1) (q0 := 2) S hK hP rfl vl_1_760 tn_1 dX10_fingerprint_59 ?_
    refine lv_ladd hx hb dX10_fingerprint_60 ?_
    refine lv_lstore_n (lv' := [(1, .long ((31 * z2) + (r2 1))), (0, .ref h0)]) hx hb dX10_fingerprint_61 rfl hl (by decide) rfl (fun ls hl => ?_)
    refine lv_iconst (v := 0) hx hb dX10_fingerprint_62 li_0 ?_
    refine lv_istore_n (lv' := [(3, .int 0), (1, .long ((31 * z2) + (r2 1))), (0, .ref h0)]) hx hb dX10_fingerprint_63 rfl hl (by decide) rfl (fun ls hl => ?_)
    exact k_X10_fingerprint_b64 S hr hlk hK hA _ v0_thrown ((31 * z2) + (r2 1)) 0 _ _ _ (by decide) (Nat.lt_succ_self _) h (hP.sub [0, 1, 2, 3] rfl) (hD.sub [0, 1, 2, 3] (by decide) rfl) hS (lv_sub hl [2, 1, 0] rfl)
  · have h := iteP c1 h
    refine lv_lload_n hx hb dX10_fingerprint_34 rfl (lv_at hl 0 rfl) ?_
    have h := Option.some.inj h
    subst h
    exact wRl S hr hlk (hP.sub [0, 1, 2, 3] rfl) (hD.sub [0, 1, 2, 3] (by decide) rfl) hS dX10_fingerprint_35
set_option maxHeartbeats 4000000 in
set_option maxRecDepth 100000 in
theorem c_X10_fingerprint (l : Launch) (D : va_G) (cI cJ cC : ClassId) (h0 h1 h2 h3 kthis_rates kthis_lengths kthis_flows kthis_trial : Nat) (v0_phases v0_has v0_thrown : Int32) (r1 : Nat → Int32) (r2 : Nat → Int64) (r3 : Nat → Int32) (sz : Nat)  (T : Int64 × Int32) (h : f_X10_fingerprint v0_has r1 r2 r3 = some T) : Met l yX10_fingerprint (Cond.code yX10_fingerprint cX10_fingerprint 4 (some .long) :: TB) rm_X10_fingerprint (PreW D cI cJ cC [(h0, .inr (10, [.ref h3, .ref kthis_rates, .ref h1, .ref kthis_lengths, .ref kthis_flows, .int v0_phases, .ref h2, .ref kthis_trial, .int v0_has, .int v0_thrown])), (h1, .inl (cI, 2, .inl r1)), (h2, .inl (cJ, 760, .inr (.inl r2))), (h3, .inl (cI, 15, .inl r3))] sz [.ref h0]) (QW (some (.long T.1)) D [(h0, .inr (10, [.ref h3, .ref kthis_rates, .ref h1, .ref kthis_lengths, .ref kthis_flows, .int v0_phases, .ref h2, .ref kthis_trial, .int v0_has, .int T.2])), (h1, .inl (cI, 2, .inl r1)), (h2, .inl (cJ, 760, .inr (.inl r2))), (h3, .inl (cI, 15, .inl r3))] (va_A [(h0, .inr (10, [.ref h3, .ref kthis_rates, .ref h1, .ref kthis_lengths, .ref kthis_flows, .int v0_phases, .ref h2, .ref kthis_trial, .int v0_has, .int v0_thrown])), (h1, .inl (cI, 2, .inl r1)), (h2, .inl (cJ, 760, .inr (.inl r2))), (h3, .inl (cI, 15, .inl r3))] sz)) 0 0 (va_A [(h0, .inr (10, [.ref h3, .ref kthis_rates, .ref h1, .ref kthis_lengths, .ref kthis_flows, .int v0_phases, .ref h2, .ref kthis_trial, .int v0_has, .int v0_thrown])), (h1, .inl (cI, 2, .inl r1)), (h2, .inl (cJ, 760, .inr (.inl r2))), (h3, .inl (cI, 15, .inl r3))] sz) := by
  refine metW (own := RX10) (by decide) rfl (Nat.le_of_ble_eq_true rfl) ?_
  intro p e s m below meth c S hr hlk hP hK A hAe hD hA hS ls hl
  clear hAe
  have hx := S.1
  have hb := S.2.1
  have hl : lv_has ls 4 [(0, .ref h0)] := hl
  refine lv_aload_n hx hb dX10_fingerprint_0 rfl (lv_at hl 0 rfl) ?_
  refine lv_iconst (v := 0) hx hb dX10_fingerprint_1 li_0 ?_
  refine pf_X10_33 (v := .int 0) S hK hP hD hS 0 rfl (Nat.le_of_ble_eq_true rfl) rfl dX10_fingerprint_2 (fun H locs hP hD hS => ?_)
  have hP : va_P D vwCl [(h0, .inr (10, [.ref h3, .ref kthis_rates, .ref h1, .ref kthis_lengths, .ref kthis_flows, .int v0_phases, .ref h2, .ref kthis_trial, .int v0_has, .int 0])), (h1, .inl (cI, 2, .inl r1)), (h2, .inl (cJ, 760, .inr (.inl r2))), (h3, .inl (cI, 15, .inl r3))] H := hP
  have hD : va_D A [(h0, .inr (10, [.ref h3, .ref kthis_rates, .ref h1, .ref kthis_lengths, .ref kthis_flows, .int v0_phases, .ref h2, .ref kthis_trial, .int v0_has, .int 0])), (h1, .inl (cI, 2, .inl r1)), (h2, .inl (cJ, 760, .inr (.inl r2))), (h3, .inl (cI, 15, .inl r3))] := hD
  refine lv_ldc2 (v := 1829) hx hb S.2.2.2.1 (S.2.2.2.2 _ tb1238) dX10_fingerprint_5 ?_
  refine lv_aload_n hx hb dX10_fingerprint_8 rfl (lv_at hl 0 rfl) ?_
  refine gf_X10_53 (v := .int v0_has) S hK hP 0 rfl rfl dX10_fingerprint_9 ?_
  refine lv_if_eq (tgt := 24) hx hb dX10_fingerprint_12 (by decide) (fun c1 => ?_) (fun c1 => ?_)
  · have h := iteP c1 h
    refine lv_lconst (v := 0) hx hb dX10_fingerprint_24 rfl ?_
    exact k_X10_fingerprint_b25 S hr hlk hK hA 0 1829 0 _ _ _ h (hP.sub [0, 1, 2, 3] rfl) (hD.sub [0, 1, 2, 3] (by decide) rfl) hS (lv_sub hl [0] rfl)
  · have h := iteN c1 h
    refine lv_aload_n hx hb dX10_fingerprint_15 rfl (lv_at hl 0 rfl) ?_
    refine gf_X10_25 (v := .ref h2) S hK hP 0 rfl rfl dX10_fingerprint_16 ?_
    refine lv_iconst (v := 2) hx hb dX10_fingerprint_19 li_2 ?_
    refine aldJ (k := 2) (q0 := 2) S hK hP rfl vl_2_760 tn_2 dX10_fingerprint_20 ?_
    refine lv_goto (tgt := 25) hx hb dX10_fingerprint_21 (by decide) ?_
    exact k_X10_fingerprint_b25 S hr hlk hK hA 0 1829 (r2 2) _ _ _ h (hP.sub [0, 1, 2, 3] rfl) (hD.sub [0, 1, 2, 3] (by decide) rfl) hS (lv_sub hl [0] rfl)
