/-! the start: what the machine gives at the law's entry, the object made, then the law -/
theorem st_arr {args : Array Value} {s : State} {ty : FieldType} (h : (Cond.arrayClass ty).before args s = true) : ∃ cA : ClassId, ArrOfT s cA ty ∧ s.vm.findClass ("[" ++ ty.toString) = some cA := by
  obtain ⟨c, k, comp, h1, h2, h3⟩ := Cond.arrayClass_spec h
  exact ⟨c, fun n z => ⟨fun k h => (by cases h), k, h2, comp, h3⟩, h1⟩
theorem st_len {args : Array Value} {s : State} {t : Term} {v : Value} (hv : (Term.length t).eval args s none [] s = some v) : ∃ a cell, t.eval args s none [] s = some (.ref a) ∧ s.heap[a]? = some cell ∧ cell.slots.size < 2 ^ 31 ∧ v = .int cell.slots.size.toInt32 := by
  obtain ⟨b, cell, ht, harr, hx⟩ := Term.length_spec hv
  have hsz : cell.slots.size < 2 ^ 31 := by
    simp only [Term.eval, ht, harr, Option.bind_eq_bind, Option.bind_some] at hv
    by_cases hlt : cell.slots.size < 2147483648
    · exact hlt
    · simp [hlt] at hv
  exact ⟨b, cell, ht, (State.arrayAt?_spec harr).1, hsz, hx⟩
theorem st_static {args : Array Value} {s : State} {A : Nat → Prop} {nm : String} {f : Nat → Int32} (hA : ∀ a : Nat, a < s.heap.size → ¬ A a) (hl : (Cond.laysStatic RX9 nm "[I").before args s = true) (hi : (Cond.initialized RX9).before args s = true) (ha : (Cond.arrayOf (.static RX9 nm "[I") .int).before args s = true) (hn : (Cond.eq (.length (.static RX9 nm "[I")) (.int 15)).before args s = true) (he : ∀ j : Nat, j < 15 → (Cond.eq (.elem (.static RX9 nm "[I") (.int (Int32.ofNat j))) (.int (f j))).before args s = true) (hx : (Cond.exactly (.static RX9 nm "[I") "[I").before args s = true) :
    ∃ t : Nat, va_Z RX9 nm "[I" (.ref t) A s s.heap ∧ va_T .int t 15 (fun j => .int (f j)) A s s.heap ∧ ∃ cell : Cell, s.heap[t]? = some cell ∧ s.vm.findClass "[I" = some cell.cls ∧ s.isArrayOf cell .int ∧ cell.vm ≠ .unknown ∧ cell.slots.size = 15 ∧ (∀ j : Nat, j < 15 → cell.slots[j]? = some (.int (f j))) ∧ ¬ A t := by
  obtain ⟨t, h1, h2⟩ := va_Tof (f := fun j => .int (f j)) (N := 15) (A := A) (by decide) ha (va_eqt hn) (fun j hj => va_eqt (he j hj)) hA
  have h2' := h2
  refine ⟨t, va_Zof hl hi h1 hA, h2, ?_⟩
  obtain ⟨cell, c1, c2, c3, c4, c5, c6, c7⟩ := h2'
  obtain ⟨a, c, cell2, k, e1, e2, e3, e4, e5, e6, e7⟩ := Cond.exactly_spec hx
  have ea : a = t := by have q := e1.symm.trans h1; cases q; rfl
  subst ea
  have ec : cell2 = cell := Option.some.inj (e3.symm.trans c1)
  subst ec
  obtain ⟨a3, cell3, f1, f2, f3, f4⟩ := st_len (va_eqt hn)
  have ea : a3 = a := by have q := f1.symm.trans h1; cases q; rfl
  subst ea
  have ec : cell3 = cell2 := Option.some.inj (f2.symm.trans c1)
  subst ec
  have hs : cell3.slots.size = 15 := by
    have q : (15 : Int32) = cell3.slots.size.toInt32 := Value.int.inj f4
    have r : cell3.slots.size.toInt32.toInt = 15 := by rw [← q]; rfl
    rw [show cell3.slots.size.toInt32 = Int32.ofNat cell3.slots.size from rfl, Int32.toInt_ofNat_small f3] at r
    omega
  exact ⟨cell3, c1, by rw [e2, e6], c2, c3, hs, c6, c7⟩
theorem st_str {args : Array Value} {s : State} {k : Nat} {tx : String} (h1 : (Cond.stringRef RX9 k tx).before args s = true) (h2 : (Cond.exactly (.string RX9 k) "java/lang/String").before args s = true) : ∃ a : Nat, vk_R RX9 k tx a s := by
  obtain ⟨a, c, cell, kk, ht, hr⟩ := Cond.exactly_spec h2
  exact ⟨a, vk_R.of h1 ht⟩
theorem st_gx {s : State} {b : Nat} {A : Nat → Prop} (hA : ∀ a : Nat, a < s.heap.size → ¬ A a) (ht : ∀ w ∈ tables_1, w.before #[Value.ref b] s = true) (hg : (Jvm.Cond.and given_1 narrow_1).before #[Value.ref b] s = true) : ∃ ga : Nat → Nat, GX ga A s := by
  have hs := flat_of_before _ hg
  have hi : (Cond.initialized RX9).before #[Value.ref b] s = true := ht _ (by decide +kernel)
  obtain ⟨t0, z0, y0, x0⟩ := st_static (nm := "FIRST_VALUES") (f := FV) hA (ht _ (by decide +kernel)) hi (hs _ (by decide +kernel)) (hs _ (by decide +kernel)) (fun j hj => by
    rcases (show j = 0 ∨ j = 1 ∨ j = 2 ∨ j = 3 ∨ j = 4 ∨ j = 5 ∨ j = 6 ∨ j = 7 ∨ j = 8 ∨ j = 9 ∨ j = 10 ∨ j = 11 ∨ j = 12 ∨ j = 13 ∨ j = 14 by omega) with rfl | rfl | rfl | rfl | rfl | rfl | rfl | rfl | rfl | rfl | rfl | rfl | rfl | rfl | rfl <;> exact hs _ (by decide +kernel)) (hs _ (by decide +kernel))
  obtain ⟨t1, z1, y1, x1⟩ := st_static (nm := "LEAST_VALUES") (f := LV) hA (ht _ (by decide +kernel)) hi (hs _ (by decide +kernel)) (hs _ (by decide +kernel)) (fun j hj => by
    rcases (show j = 0 ∨ j = 1 ∨ j = 2 ∨ j = 3 ∨ j = 4 ∨ j = 5 ∨ j = 6 ∨ j = 7 ∨ j = 8 ∨ j = 9 ∨ j = 10 ∨ j = 11 ∨ j = 12 ∨ j = 13 ∨ j = 14 by omega) with rfl | rfl | rfl | rfl | rfl | rfl | rfl | rfl | rfl | rfl | rfl | rfl | rfl | rfl | rfl <;> exact hs _ (by decide +kernel)) (hs _ (by decide +kernel))
  obtain ⟨t2, z2, y2, x2⟩ := st_static (nm := "GREATEST_VALUES") (f := GV) hA (ht _ (by decide +kernel)) hi (hs _ (by decide +kernel)) (hs _ (by decide +kernel)) (fun j hj => by
    rcases (show j = 0 ∨ j = 1 ∨ j = 2 ∨ j = 3 ∨ j = 4 ∨ j = 5 ∨ j = 6 ∨ j = 7 ∨ j = 8 ∨ j = 9 ∨ j = 10 ∨ j = 11 ∨ j = 12 ∨ j = 13 ∨ j = 14 by omega) with rfl | rfl | rfl | rfl | rfl | rfl | rfl | rfl | rfl | rfl | rfl | rfl | rfl | rfl | rfl <;> exact hs _ (by decide +kernel)) (hs _ (by decide +kernel))
  obtain ⟨a0, v0⟩ := st_str (k := 253) (tx := "there is a session") (ht _ (by decide +kernel)) (hs _ (by decide +kernel))
  obtain ⟨a1, v1⟩ := st_str (k := 251) (tx := "there is no session") (ht _ (by decide +kernel)) (hs _ (by decide +kernel))
  obtain ⟨a2, v2⟩ := st_str (k := 234) (tx := "there is no such number") (ht _ (by decide +kernel)) (hs _ (by decide +kernel))
  obtain ⟨a3, v3⟩ := st_str (k := 243) (tx := "an argument is out of its range") (ht _ (by decide +kernel)) (hs _ (by decide +kernel))
  obtain ⟨a4, v4⟩ := st_str (k := 248) (tx := "the call is not possible now") (ht _ (by decide +kernel)) (hs _ (by decide +kernel))
  obtain ⟨a5, v5⟩ := st_str (k := 239) (tx := "the number is negative") (ht _ (by decide +kernel)) (hs _ (by decide +kernel))
  refine ⟨fun k => if k = 0 then t0 else if k = 1 then t1 else if k = 2 then t2 else if k = 253 then a0 else if k = 251 then a1 else if k = 234 then a2 else if k = 243 then a3 else if k = 248 then a4 else a5, fun w hw => va_Nw.of (NBL_on w hw) (ht w (NBL_in w hw)), fun q hq => ?_, ?_, ?_, fun q hq => ?_, fun q hq => ?_, x0⟩
  · simp only [strs, List.mem_cons, List.not_mem_nil, or_false] at hq
    rcases hq with rfl | rfl | rfl | rfl | rfl | rfl
    · exact v0
    · exact v1
    · exact v2
    · exact v3
    · exact v4
    · exact v5
  · exact vx_Zqof (ht _ (by decide +kernel)) (ht _ (by decide +kernel)) (hs _ (by decide +kernel)) hA
  · exact vx_Zqof (ht _ (by decide +kernel)) (ht _ (by decide +kernel)) (hs _ (by decide +kernel)) hA
  · simp only [sarr, List.mem_cons, List.not_mem_nil, or_false] at hq
    rcases hq with rfl | rfl | rfl
    · exact ⟨z0, y0⟩
    · exact ⟨z1, y1⟩
    · exact ⟨z2, y2⟩
  · simp only [ncs, List.mem_cons, List.not_mem_nil, or_false] at hq
    rcases hq with rfl | rfl | rfl | rfl | rfl | rfl <;> exact va_Nc.of (hs _ (by decide +kernel))
theorem st_known {s : State} {args : Array Value} (hts : ∀ w ∈ TB, w.before args s = true) : ∃ (D : va_G) (cI cJ cC : ClassId), va_K D vwCl (ty3 cI cJ cC) s := by
  obtain ⟨c0, i0, k0⟩ := u_known (C := RX0) (T := TX0) (N := 9) (n := 9) hts iwX0 (hts _ tb190)
  obtain ⟨c1, i1, k1⟩ := u_known (C := RX1) (T := TX1) (N := 8) (n := 8) hts iwX1 (hts _ tb152)
  obtain ⟨c2, i2, k2⟩ := u_known (C := RX2) (T := TX2) (N := 3) (n := 3) hts iwX2 (hts _ tb59)
  obtain ⟨c3, i3, k3⟩ := u_known (C := RX3) (T := TX3) (N := 2) (n := 2) hts iwX3 (hts _ tb232)
  obtain ⟨c4, i4, k4⟩ := u_known (C := RX4) (T := TX4) (N := 4) (n := 4) hts iwX4 (hts _ tb79)
  obtain ⟨c5, i5, k5⟩ := u_known (C := RX5) (T := TX5) (N := 3) (n := 3) hts iwX5 (hts _ tb136)
  obtain ⟨c6, i6, k6⟩ := u_known (C := RX6) (T := TX6) (N := 14) (n := 14) hts iwX6 (hts _ tb116)
  obtain ⟨c7, i7, k7⟩ := u_known (C := RX7) (T := TX7) (N := 2) (n := 2) hts iwX7 (hts _ tb122)
  obtain ⟨c8, i8, k8⟩ := u_known (C := RX8) (T := TX8) (N := 4) (n := 4) hts iwX8 (hts _ tb48)
  obtain ⟨c9, i9, k9⟩ := u_known (C := RX9) (T := TX9) (N := 3) (n := 3) hts iwX9 (hts _ tb40)
  obtain ⟨cI, eI, fI⟩ := st_arr (hts (.arrayClass .int) tb77)
  obtain ⟨cJ, eJ, fJ⟩ := st_arr (hts (.arrayClass .long) tb150)
  obtain ⟨cC, eC, fC⟩ := st_arr (hts (.arrayClass .char) tb243)
  refine ⟨(fun k => if k = 0 then c0 else if k = 1 then c1 else if k = 2 then c2 else if k = 3 then c3 else if k = 4 then c4 else if k = 5 then c5 else if k = 6 then c6 else if k = 7 then c7 else if k = 8 then c8 else c9, fun k => if k = 0 then i0 else if k = 1 then i1 else if k = 2 then i2 else if k = 3 then i3 else if k = 4 then i4 else if k = 5 then i5 else if k = 6 then i6 else if k = 7 then i7 else if k = 8 then i8 else i9), cI, cJ, cC, ?_, ?_⟩
  · intro k q hq
    match k, hq with
    | 0, hq => cases hq; exact k0
    | 1, hq => cases hq; exact k1
    | 2, hq => cases hq; exact k2
    | 3, hq => cases hq; exact k3
    | 4, hq => cases hq; exact k4
    | 5, hq => cases hq; exact k5
    | 6, hq => cases hq; exact k6
    | 7, hq => cases hq; exact k7
    | 8, hq => cases hq; exact k8
    | 9, hq => cases hq; exact k9
    | k + 10, hq => simp [vwCl] at hq
  · intro k q hq
    match k, hq with
    | 0, hq => cases hq; exact ⟨eI, fI⟩
    | 1, hq => cases hq; exact ⟨eJ, fJ⟩
    | 2, hq => cases hq; exact ⟨eC, fC⟩
    | k + 3, hq => simp [ty3] at hq
set_option maxHeartbeats 4000000 in
set_option maxRecDepth 100000 in
theorem whole_start {p : Program} {e : Env} {s : State} {m : MethodId} {below : List Frame} {meth : Method} {c : Code} (l : Launch) (hflags : l.flags = flags0) {b L : Nat} {xs : Nat → Int32} (hL : L ≤ 260) (C0 : lw_At p s m meth c b L xs) : W p l e room_1 s m #[Value.ref b] below meth c s.heap [] 0 0 (lw_Z below #[Value.ref b] s) (entryFrame m ([Value.ref b] : List Value).toArray 13) := by
  obtain ⟨hx, hb, hr, hml, hown, hts0, hX, hbl, hlocks, hgv⟩ := id C0
  have hts : ∀ w ∈ TB, w.before #[Value.ref b] s = true := fun w hw => hts0 w (TB_in w hw)
  have hfl : l.stackTraces = false := by unfold Launch.stackTraces; rw [hflags]; decide +kernel
  have hA : ∀ q : Nat, s.heap.size ≤ q → (fun q : Nat => s.heap.size ≤ q) q := fun _ h => h
  have hbA : ¬ (fun q : Nat => s.heap.size ≤ q) b := Nat.not_le.mpr hbl
  obtain ⟨D, cI, cJ, cC, hK⟩ := st_known hts
  obtain ⟨ga, hG⟩ := st_gx (A := fun q : Nat => s.heap.size ≤ q) (fun a h => Nat.not_le.mpr h) (fun w hw => hts0 w (List.mem_append_right _ hw)) hgv
  have S : CallFix p m c cL_law 13 s #[Value.ref b] TB RL := ⟨hx, hb, hml, hown, hts⟩
  have hS : va_S (fun q : Nat => s.heap.size ≤ q) s.heap s.heap [] := va_S.rf
  have hP : va_P D vwCl [] s.heap := fun k q h => by simp at h
  have hD : va_D (fun q : Nat => s.heap.size ≤ q) [] := ⟨fun i j p q h => by simp at h, fun k q h => by simp at h⟩
  have hl := lv_entry ([.ref b]) (n := 13) (Nat.le_of_ble_eq_true rfl)
  rw [lg_entry_eq]
  generalize (lg_sl ([.ref b]) ++ List.replicate (13 - (lg_sl ([.ref b])).length) Slot.unset).toArray = ls at hl ⊢
  have hl : lv_has ls 13 [(0, .ref b)] := hl
  refine va_new (ci := 9) (fs := [.null, .null, .null]) (C := RX9) (T := TX9) (N := 3) S.1 S.2.1 S.2.2.2.2 iwX9 tyX9 tyX9_ok S.2.2.2.1 (S.2.2.2.2 _ tb39) (S.2.2.2.2 _ tb40) (S.2.2.2.2 _ tb21) hK hP hD hS hA rfl (fun j hj => by rcases (show j = 0 ∨ j = 1 ∨ j = 2 by omega) with rfl | rfl | rfl <;> rfl) (Nat.le_of_ble_eq_true rfl) (Nat.le_of_ble_eq_true rfl) dL_law_0 (fun q1 H hP hD hS => ?_)
  refine W.widen (k := 1) (n := 3) (by omega) (by omega) ?_
  have hP : va_P D vwCl [(q1, .inr (9, [.null, .null, .null]))] H := hP
  have hD : va_D (fun q : Nat => s.heap.size ≤ q) [(q1, .inr (9, [.null, .null, .null]))] := hD
  refine lv_dup hx hb dL_law_3 rfl ?_
  refine nwI (pc1 := 7) (rest := [.ref q1]) (wr := []) (cells1 := 34) (slots1 := 1604) S (c_X9_init l ga D cI cJ cC q1 H.size) (cwI 0 S.2.2.2.2 (gC tb43) rfl rfl rfl (S.2.2.2.2 _ tb21) (S.2.2.2.2 _ tb41) (S.2.2.2.2 _ tb42) rfl ⟨by decide, by decide, by decide +kernel⟩ ⟨Nat.le_of_ble_eq_true rfl, Nat.le_of_ble_eq_true rfl⟩) hK hP hD hS hA hG [0] [] rfl rfl rfl (by decide) (by decide) (by decide) rfl hl.1 rfl (Nat.le_of_ble_eq_true rfl) ⟨Nat.le_of_ble_eq_true rfl, Nat.le_of_ble_eq_true rfl⟩ rfl rfl rfl dL_law_4 (fun f H locs hP hD hS => ?_)
  have hP : va_P D vwCl [(q1, .inr (9, [.ref (f 0), .ref (f 9), .ref (f 21)])), ((f 0), .inr (8, [.ref (f 1), .ref (f 2), .ref (f 4), .ref (f 6)])), ((f 1), .inl (cI, 15, .inl FV)), ((f 2), .inr (2, [.ref (f 3), .int 6, .int 0])), ((f 3), .inl (cI, 6, .inl (fun _ => 0))), ((f 4), .inr (2, [.ref (f 5), .int 3, .int 0])), ((f 5), .inl (cI, 6, .inl (fun _ => 0))), ((f 6), .inr (4, [.ref (f 7), .ref (f 8), .int 0, .int 0])), ((f 7), .inl (cI, 20, .inl (fun _ => 0))), ((f 8), .inl (cI, 20, .inl (fun _ => 0))), ((f 9), .inr (6, [.ref (f 0), .ref (f 10), .ref (f 12), .ref (f 14), .ref (f 17), .ref (f 18), .ref (f 19), .int 0, .int 0, .int 0, .int 0, .int 0, .int 0, .int 0])), ((f 10), .inr (7, [.ref (f 11), .int 0])), ((f 11), .inl (cI, 200, .inl (fun _ => 0))), ((f 12), .inr (7, [.ref (f 13), .int 0])), ((f 13), .inl (cI, 200, .inl (fun _ => 0))), ((f 14), .inr (5, [.ref (f 15), .ref (f 16), .int 0])), ((f 15), .inl (cJ, 10, .inr (.inl (fun _ => 0)))), ((f 16), .inl (cJ, 10, .inr (.inl (fun _ => 0)))), ((f 17), .inr (1, [.int 0, .int 0, .int 0, .int 0, .int 0, .int 0, .long 0, .long 0])), ((f 18), .inr (0, [.int 0, .int 0, .int 0, .int 0, .int 0, .int 0, .int 0, .long 0, .long 0])), ((f 19), .inr (3, [.ref (f 20), .int 0])), ((f 20), .inl (cC, 300, .inl (fun _ => 0))), ((f 21), .inr (6, [.ref (f 0), .ref (f 22), .ref (f 24), .ref (f 26), .ref (f 29), .ref (f 30), .ref (f 31), .int 0, .int 0, .int 0, .int 0, .int 0, .int 0, .int 0])), ((f 22), .inr (7, [.ref (f 23), .int 0])), ((f 23), .inl (cI, 200, .inl (fun _ => 0))), ((f 24), .inr (7, [.ref (f 25), .int 0])), ((f 25), .inl (cI, 200, .inl (fun _ => 0))), ((f 26), .inr (5, [.ref (f 27), .ref (f 28), .int 0])), ((f 27), .inl (cJ, 10, .inr (.inl (fun _ => 0)))), ((f 28), .inl (cJ, 10, .inr (.inl (fun _ => 0)))), ((f 29), .inr (1, [.int 0, .int 0, .int 0, .int 0, .int 0, .int 0, .long 0, .long 0])), ((f 30), .inr (0, [.int 0, .int 0, .int 0, .int 0, .int 0, .int 0, .int 0, .long 0, .long 0])), ((f 31), .inr (3, [.ref (f 32), .int 0])), ((f 32), .inl (cC, 300, .inl (fun _ => 0)))] H := hP
  have hD : va_D (fun q : Nat => s.heap.size ≤ q) [(q1, .inr (9, [.ref (f 0), .ref (f 9), .ref (f 21)])), ((f 0), .inr (8, [.ref (f 1), .ref (f 2), .ref (f 4), .ref (f 6)])), ((f 1), .inl (cI, 15, .inl FV)), ((f 2), .inr (2, [.ref (f 3), .int 6, .int 0])), ((f 3), .inl (cI, 6, .inl (fun _ => 0))), ((f 4), .inr (2, [.ref (f 5), .int 3, .int 0])), ((f 5), .inl (cI, 6, .inl (fun _ => 0))), ((f 6), .inr (4, [.ref (f 7), .ref (f 8), .int 0, .int 0])), ((f 7), .inl (cI, 20, .inl (fun _ => 0))), ((f 8), .inl (cI, 20, .inl (fun _ => 0))), ((f 9), .inr (6, [.ref (f 0), .ref (f 10), .ref (f 12), .ref (f 14), .ref (f 17), .ref (f 18), .ref (f 19), .int 0, .int 0, .int 0, .int 0, .int 0, .int 0, .int 0])), ((f 10), .inr (7, [.ref (f 11), .int 0])), ((f 11), .inl (cI, 200, .inl (fun _ => 0))), ((f 12), .inr (7, [.ref (f 13), .int 0])), ((f 13), .inl (cI, 200, .inl (fun _ => 0))), ((f 14), .inr (5, [.ref (f 15), .ref (f 16), .int 0])), ((f 15), .inl (cJ, 10, .inr (.inl (fun _ => 0)))), ((f 16), .inl (cJ, 10, .inr (.inl (fun _ => 0)))), ((f 17), .inr (1, [.int 0, .int 0, .int 0, .int 0, .int 0, .int 0, .long 0, .long 0])), ((f 18), .inr (0, [.int 0, .int 0, .int 0, .int 0, .int 0, .int 0, .int 0, .long 0, .long 0])), ((f 19), .inr (3, [.ref (f 20), .int 0])), ((f 20), .inl (cC, 300, .inl (fun _ => 0))), ((f 21), .inr (6, [.ref (f 0), .ref (f 22), .ref (f 24), .ref (f 26), .ref (f 29), .ref (f 30), .ref (f 31), .int 0, .int 0, .int 0, .int 0, .int 0, .int 0, .int 0])), ((f 22), .inr (7, [.ref (f 23), .int 0])), ((f 23), .inl (cI, 200, .inl (fun _ => 0))), ((f 24), .inr (7, [.ref (f 25), .int 0])), ((f 25), .inl (cI, 200, .inl (fun _ => 0))), ((f 26), .inr (5, [.ref (f 27), .ref (f 28), .int 0])), ((f 27), .inl (cJ, 10, .inr (.inl (fun _ => 0)))), ((f 28), .inl (cJ, 10, .inr (.inl (fun _ => 0)))), ((f 29), .inr (1, [.int 0, .int 0, .int 0, .int 0, .int 0, .int 0, .long 0, .long 0])), ((f 30), .inr (0, [.int 0, .int 0, .int 0, .int 0, .int 0, .int 0, .int 0, .long 0, .long 0])), ((f 31), .inr (3, [.ref (f 32), .int 0])), ((f 32), .inl (cC, 300, .inl (fun _ => 0)))] := hD
  refine lv_astore_n (lv' := [(1, .ref q1), (0, .ref b)]) hx hb dL_law_7 rfl hl (by decide) rfl (fun ls hl => ?_)
  have hl : lv_has ls 13 [(0, .ref b), (1, .ref q1)] := lv_sub hl [1, 0] rfl
  have hP : va_P D vwCl [(q1, .inr (9, [.ref (f 0), .ref (f 9), .ref (f 21)])), ((f 21), .inr (6, [.ref (f 0), .ref (f 22), .ref (f 24), .ref (f 26), .ref (f 29), .ref (f 30), .ref (f 31), .int 0, .int 0, .int 0, .int 0, .int 0, .int 0, .int 0])), ((f 30), .inr (0, [.int 0, .int 0, .int 0, .int 0, .int 0, .int 0, .int 0, .long 0, .long 0])), ((f 24), .inr (7, [.ref (f 25), .int 0])), ((f 25), .inl (cI, 200, .inl (fun _ => 0))), ((f 29), .inr (1, [.int 0, .int 0, .int 0, .int 0, .int 0, .int 0, .long 0, .long 0])), ((f 31), .inr (3, [.ref (f 32), .int 0])), ((f 32), .inl (cC, 300, .inl (fun _ => 0))), ((f 26), .inr (5, [.ref (f 27), .ref (f 28), .int 0])), ((f 27), .inl (cJ, 10, .inr (.inl (fun _ => 0)))), ((f 28), .inl (cJ, 10, .inr (.inl (fun _ => 0)))), ((f 22), .inr (7, [.ref (f 23), .int 0])), ((f 23), .inl (cI, 200, .inl (fun _ => 0))), ((f 9), .inr (6, [.ref (f 0), .ref (f 10), .ref (f 12), .ref (f 14), .ref (f 17), .ref (f 18), .ref (f 19), .int 0, .int 0, .int 0, .int 0, .int 0, .int 0, .int 0])), ((f 18), .inr (0, [.int 0, .int 0, .int 0, .int 0, .int 0, .int 0, .int 0, .long 0, .long 0])), ((f 12), .inr (7, [.ref (f 13), .int 0])), ((f 13), .inl (cI, 200, .inl (fun _ => 0))), ((f 17), .inr (1, [.int 0, .int 0, .int 0, .int 0, .int 0, .int 0, .long 0, .long 0])), ((f 19), .inr (3, [.ref (f 20), .int 0])), ((f 20), .inl (cC, 300, .inl (fun _ => 0))), ((f 14), .inr (5, [.ref (f 15), .ref (f 16), .int 0])), ((f 15), .inl (cJ, 10, .inr (.inl (fun _ => 0)))), ((f 16), .inl (cJ, 10, .inr (.inl (fun _ => 0)))), ((f 10), .inr (7, [.ref (f 11), .int 0])), ((f 11), .inl (cI, 200, .inl (fun _ => 0))), ((f 0), .inr (8, [.ref (f 1), .ref (f 2), .ref (f 4), .ref (f 6)])), ((f 4), .inr (2, [.ref (f 5), .int 3, .int 0])), ((f 5), .inl (cI, 6, .inl (fun _ => 0))), ((f 6), .inr (4, [.ref (f 7), .ref (f 8), .int 0, .int 0])), ((f 7), .inl (cI, 20, .inl (fun _ => 0))), ((f 8), .inl (cI, 20, .inl (fun _ => 0))), ((f 1), .inl (cI, 15, .inl FV)), ((f 2), .inr (2, [.ref (f 3), .int 6, .int 0])), ((f 3), .inl (cI, 6, .inl (fun _ => 0)))] H := hP.sub [0, 22, 31, 25, 26, 30, 32, 33, 27, 28, 29, 23, 24, 10, 19, 13, 14, 18, 20, 21, 15, 16, 17, 11, 12, 1, 5, 6, 7, 8, 9, 2, 3, 4] rfl
  have hD : va_D (fun q : Nat => s.heap.size ≤ q) [(q1, .inr (9, [.ref (f 0), .ref (f 9), .ref (f 21)])), ((f 21), .inr (6, [.ref (f 0), .ref (f 22), .ref (f 24), .ref (f 26), .ref (f 29), .ref (f 30), .ref (f 31), .int 0, .int 0, .int 0, .int 0, .int 0, .int 0, .int 0])), ((f 30), .inr (0, [.int 0, .int 0, .int 0, .int 0, .int 0, .int 0, .int 0, .long 0, .long 0])), ((f 24), .inr (7, [.ref (f 25), .int 0])), ((f 25), .inl (cI, 200, .inl (fun _ => 0))), ((f 29), .inr (1, [.int 0, .int 0, .int 0, .int 0, .int 0, .int 0, .long 0, .long 0])), ((f 31), .inr (3, [.ref (f 32), .int 0])), ((f 32), .inl (cC, 300, .inl (fun _ => 0))), ((f 26), .inr (5, [.ref (f 27), .ref (f 28), .int 0])), ((f 27), .inl (cJ, 10, .inr (.inl (fun _ => 0)))), ((f 28), .inl (cJ, 10, .inr (.inl (fun _ => 0)))), ((f 22), .inr (7, [.ref (f 23), .int 0])), ((f 23), .inl (cI, 200, .inl (fun _ => 0))), ((f 9), .inr (6, [.ref (f 0), .ref (f 10), .ref (f 12), .ref (f 14), .ref (f 17), .ref (f 18), .ref (f 19), .int 0, .int 0, .int 0, .int 0, .int 0, .int 0, .int 0])), ((f 18), .inr (0, [.int 0, .int 0, .int 0, .int 0, .int 0, .int 0, .int 0, .long 0, .long 0])), ((f 12), .inr (7, [.ref (f 13), .int 0])), ((f 13), .inl (cI, 200, .inl (fun _ => 0))), ((f 17), .inr (1, [.int 0, .int 0, .int 0, .int 0, .int 0, .int 0, .long 0, .long 0])), ((f 19), .inr (3, [.ref (f 20), .int 0])), ((f 20), .inl (cC, 300, .inl (fun _ => 0))), ((f 14), .inr (5, [.ref (f 15), .ref (f 16), .int 0])), ((f 15), .inl (cJ, 10, .inr (.inl (fun _ => 0)))), ((f 16), .inl (cJ, 10, .inr (.inl (fun _ => 0)))), ((f 10), .inr (7, [.ref (f 11), .int 0])), ((f 11), .inl (cI, 200, .inl (fun _ => 0))), ((f 0), .inr (8, [.ref (f 1), .ref (f 2), .ref (f 4), .ref (f 6)])), ((f 4), .inr (2, [.ref (f 5), .int 3, .int 0])), ((f 5), .inl (cI, 6, .inl (fun _ => 0))), ((f 6), .inr (4, [.ref (f 7), .ref (f 8), .int 0, .int 0])), ((f 7), .inl (cI, 20, .inl (fun _ => 0))), ((f 8), .inl (cI, 20, .inl (fun _ => 0))), ((f 1), .inl (cI, 15, .inl FV)), ((f 2), .inr (2, [.ref (f 3), .int 6, .int 0])), ((f 3), .inl (cI, 6, .inl (fun _ => 0)))] := hD.sub [0, 22, 31, 25, 26, 30, 32, 33, 27, 28, 29, 23, 24, 10, 19, 13, 14, 18, 20, 21, 15, 16, 17, 11, 12, 1, 5, 6, 7, 8, 9, 2, 3, 4] (by decide) rfl
  refine k_L_law_b8 (D := D) (cI := cI) (cJ := cJ) (cC := cC) (A := fun q : Nat => s.heap.size ≤ q) (ga := ga) (b := b) (L := L) (xs := xs) (h0 := q1) (h1 := (f 21)) (h2 := (f 30)) (h3 := (f 24)) (h4 := (f 25)) (h5 := (f 29)) (h6 := (f 31)) (h7 := (f 32)) (h8 := (f 26)) (h9 := (f 27)) (h10 := (f 28)) (h11 := (f 22)) (h12 := (f 23)) (h13 := (f 9)) (h14 := (f 18)) (h15 := (f 12)) (h16 := (f 13)) (h17 := (f 17)) (h18 := (f 19)) (h19 := (f 20)) (h20 := (f 14)) (h21 := (f 15)) (h22 := (f 16)) (h23 := (f 10)) (h24 := (f 11)) (h25 := (f 0)) (h26 := (f 4)) (h27 := (f 5)) (h28 := (f 6)) (h29 := (f 7)) (h30 := (f 8)) (h31 := (f 1)) (h32 := (f 2)) (h33 := (f 3)) (v1_mode := 0) (v1_startThreshold := 0) (v1_lastRung := 0) (v1_lastChange := 0) (v1_state := 0) (v1_time := 0) (v1_position := 0) (v2_startUpTime := 0) (v2_stallTime := 0) (v2_playTime := 0) (v2_stalls := 0) (v2_abandoned := 0) (v2_finished := 0) (v2_switches := 0) (v2_wasted := 0) (v2_quality := 0) (v3_segments := 0) (r4 := (fun _ => 0)) (v5_going := 0) (v5_track := 0) (v5_segment := 0) (v5_rung := 0) (v5_waiting := 0) (v5_duration := 0) (v5_bits := 0) (v5_received := 0) (v6_length := 0) (r7 := (fun _ => 0)) (v8_kept := 0) (r9 := (fun _ => 0)) (r10 := (fun _ => 0)) (v11_segments := 0) (r12 := (fun _ => 0)) (v13_mode := 0) (v13_startThreshold := 0) (v13_lastRung := 0) (v13_lastChange := 0) (v13_state := 0) (v13_time := 0) (v13_position := 0) (v14_startUpTime := 0) (v14_stallTime := 0) (v14_playTime := 0) (v14_stalls := 0) (v14_abandoned := 0) (v14_finished := 0) (v14_switches := 0) (v14_wasted := 0) (v14_quality := 0) (v15_segments := 0) (r16 := (fun _ => 0)) (v17_going := 0) (v17_track := 0) (v17_segment := 0) (v17_rung := 0) (v17_waiting := 0) (v17_duration := 0) (v17_bits := 0) (v17_received := 0) (v18_length := 0) (r19 := (fun _ => 0)) (v20_kept := 0) (r21 := (fun _ => 0)) (r22 := (fun _ => 0)) (v23_segments := 0) (r24 := (fun _ => 0)) (v26_most := 3) (v26_rungs := 0) (r27 := (fun _ => 0)) (v28_total := 0) (v28_phases := 0) (r29 := (fun _ => 0)) (r30 := (fun _ => 0)) (r31 := FV) (v32_most := 6) (v32_rungs := 0) (r33 := (fun _ => 0)) hfl S hr hlocks hK hA hG hX hbl hbA (fun _ h => h) 34 1604 H locs ls (by decide) (by decide) ?_ hP hD hS hl
  exact law_all hL (by decide +kernel) (by decide +kernel)
