/-! a millisecond of a download -/
def updI (f : Nat → Int) (k : Nat) (x : Int) : Nat → Int := fun j => if j = k then x else f j
def putB (x : Int) (f : Nat → Int) : Nat → Int := fun k => if k = 0 then x else f (k - 1)
def gotS (c : Cf) (σ : Ss) : Int := if 0 < σ.wait then σ.got else σ.got + min (flowS c σ.time) (σ.need - σ.got)
def waitS (σ : Ss) : Int := if 0 < σ.wait then σ.wait - 1 else σ.wait
def partS (c : Cf) (σ : Ss) : Ss := (Ss.mk (σ.time) (σ.pos) (σ.state) (σ.vs) (σ.as) (σ.going) (σ.track) (σ.seg) (σ.rung) (waitS σ) (σ.dur + 1) (gotS c σ) (σ.need) (σ.last) (σ.chg) (σ.su) (σ.st) (σ.pl) (σ.stalls) (σ.aband) (σ.fin) (σ.sw) (σ.len) (σ.kept) (σ.wasted) (σ.qual) (σ.va) (σ.aa) (σ.sg) (σ.bits) (σ.durs))
def doneS (σ : Ss) : Ss := (Ss.mk (σ.time) (σ.pos) (σ.state) (σ.vs) (σ.as) (0) (σ.track) (σ.seg) (σ.rung) (σ.wait) (σ.dur) (σ.got) (σ.need) (σ.last) (σ.chg) (σ.su) (σ.st) (σ.pl) (σ.stalls) (σ.aband) (σ.fin + 1) (σ.sw) (σ.len) (min (σ.kept + 1) 10) (σ.wasted) (σ.qual) (σ.va) (σ.aa) (σ.sg) (putB σ.need σ.bits) (putB σ.dur σ.durs))
def doneV (σ : Ss) : Ss := (Ss.mk (σ.time) (σ.pos) (σ.state) (σ.vs + 1) (σ.as) (σ.going) (σ.track) (σ.seg) (σ.rung) (σ.wait) (σ.dur) (σ.got) (σ.need) (σ.last) (σ.chg) (σ.su) (σ.st) (σ.pl) (σ.stalls) (σ.aband) (σ.fin) (if 1 ≤ σ.vs ∧ σ.rung ≠ σ.va (σ.vs - 1).toNat then σ.sw + 1 else σ.sw) (σ.len) (σ.kept) (σ.wasted) (σ.qual) (updI σ.va σ.vs.toNat σ.rung) (σ.aa) (σ.sg) (σ.bits) (σ.durs))
def doneA (σ : Ss) : Ss := (Ss.mk (σ.time) (σ.pos) (σ.state) (σ.vs) (σ.as + 1) (σ.going) (σ.track) (σ.seg) (σ.rung) (σ.wait) (σ.dur) (σ.got) (σ.need) (σ.last) (σ.chg) (σ.su) (σ.st) (σ.pl) (σ.stalls) (σ.aband) (σ.fin) (σ.sw) (σ.len) (σ.kept) (σ.wasted) (σ.qual) (σ.va) (updI σ.aa σ.as.toNat σ.rung) (σ.sg) (σ.bits) (σ.durs))
def recvS (c : Cf) (σ : Ss) : Ss := if gotS c σ < σ.need then partS c σ else if σ.track = 0 then doneV (doneS (partS c σ)) else doneA (doneS (partS c σ))
theorem gotS_b {c : Cf} {σ : Ss} (W : WfC c) {T : Int} (S : WfS c T σ) (G : σ.going = 1) : σ.got ≤ gotS c σ ∧ gotS c σ ≤ σ.need := by
  have f := flowS_b W (t := σ.time)
  have q1 := S.q1 G
  unfold gotS
  split <;> omega
theorem mulS {a b : Int} (h : 0 ≤ b) : a * b ≤ (a + 1) * b := by rw [Int.add_mul]; omega
theorem recv_wf {c : Cf} {σ : Ss} (W : WfC c) {T : Int} (S : WfS c T σ) (G : σ.going = 1) (hT : T + 1 ≤ 41000000) : WfS c (T + 1) (recvS c σ) := by
  have gb := gotS_b W S G
  have T0 := S.T0
  have su1 := S.su1
  have st1 := S.st1
  have pl1 := S.pl1
  have stalls1 := S.stalls1
  have aband1 := S.aband1
  have fin1 := S.fin1
  have fin0 := S.fin0
  have sw0 := S.sw0
  have sw1 := S.sw1
  have w0 := S.w0 G
  have w1 := S.w1 G
  have d0 := S.d0 G
  have d1 := S.d1 G
  have q0 := S.q0 G
  have e0 := S.e0 G
  have e1 := S.e1 G
  have k0 := S.k0
  have k1 := S.k1
  have v0 := S.v0
  have a0 := S.a0
  have a1 := S.a1
  have v1 := S.v1
  have pv := S.pv
  have pa := S.pa
  have dd := W.d0
  have r0 := S.r0 G
  have r1 := S.r1 G
  have sq := S.sq G
  have sl := S.sl G
  have hva := S.va
  have haa := S.aa
  have sm := S.sm
  have iw0 : 0 ≤ waitS σ := by unfold waitS; split <;> omega
  have iw1 : waitS σ ≤ 2000 := by unfold waitS; split <;> omega
  have B : gotS c σ < σ.need → WfS c (T + 1) (partS c σ) := fun q =>
    (WfS.mk (h_T0 := by omega) (h_T1 := hT) (h_t0 := S.t0) (h_t1 := S.t1) (h_s0 := S.s0) (h_s1 := S.s1) (h_v0 := S.v0) (h_v1 := S.v1) (h_a0 := S.a0) (h_a1 := S.a1) (h_p0 := S.p0) (h_pv := S.pv) (h_pa := S.pa) (h_p2 := S.p2) (h_l0 := S.l0) (h_l1 := S.l1) (h_c0 := S.c0) (h_c1 := S.c1) (h_n0 := S.n0) (h_n1 := S.n1) (h_k0 := S.k0) (h_k1 := S.k1) (h_g0 := S.g0) (h_tr := S.tr) (h_sq := S.sq) (h_sl := S.sl) (h_r0 := S.r0) (h_r1 := S.r1) (h_w0 := fun _ => iw0) (h_w1 := fun _ => iw1) (h_d0 := fun _ => by show 0 ≤ σ.dur + 1; omega) (h_d1 := fun _ => by show σ.dur + 1 ≤ T + 1; omega) (h_e0 := S.e0) (h_e1 := S.e1) (h_q0 := fun _ => by show 0 ≤ gotS c σ; omega) (h_q1 := fun _ => q) (h_su0 := S.su0) (h_su1 := by show σ.su ≤ _; omega) (h_st0 := S.st0) (h_st1 := by show σ.st ≤ _; omega) (h_pl0 := S.pl0) (h_pl1 := by show σ.pl ≤ _; omega) (h_stalls0 := S.stalls0) (h_stalls1 := by show σ.stalls ≤ _; omega) (h_aband0 := S.aband0) (h_aband1 := by show σ.aband ≤ _; omega) (h_fin0 := S.fin0) (h_fin1 := by show σ.fin ≤ _; omega) (h_sw0 := S.sw0) (h_sw1 := S.sw1) (h_va := S.va) (h_aa := S.aa) (h_sg := S.sg) (h_sm := S.sm))
  have sm' : SmpB (putB σ.need σ.bits) (putB (σ.dur + 1) σ.durs) (min (σ.kept + 1) 10).toNat := by
    intro k hk
    unfold putB
    by_cases h : k = 0
    · rw [if_pos h, if_pos h]; omega
    · rw [if_neg h, if_neg h]; exact sm (k - 1) (by omega)
  have D : ∀ going' : Int, going' = 0 → WfS c (T + 1) (doneS (partS c σ)) := fun _ _ =>
    (WfS.mk (h_T0 := by omega) (h_T1 := hT) (h_t0 := S.t0) (h_t1 := S.t1) (h_s0 := S.s0) (h_s1 := S.s1) (h_v0 := S.v0) (h_v1 := S.v1) (h_a0 := S.a0) (h_a1 := S.a1) (h_p0 := S.p0) (h_pv := S.pv) (h_pa := S.pa) (h_p2 := S.p2) (h_l0 := S.l0) (h_l1 := S.l1) (h_c0 := S.c0) (h_c1 := S.c1) (h_n0 := S.n0) (h_n1 := S.n1) (h_k0 := by show 0 ≤ min (σ.kept + 1) 10; omega) (h_k1 := by show min (σ.kept + 1) 10 ≤ 10; omega) (h_g0 := Or.inl rfl) (h_tr := fun h => absurd h (by show ¬ (0 : Int) = 1; decide)) (h_sq := fun h => absurd h (by show ¬ (0 : Int) = 1; decide)) (h_sl := fun h => absurd h (by show ¬ (0 : Int) = 1; decide)) (h_r0 := fun h => absurd h (by show ¬ (0 : Int) = 1; decide)) (h_r1 := fun h => absurd h (by show ¬ (0 : Int) = 1; decide)) (h_w0 := fun h => absurd h (by show ¬ (0 : Int) = 1; decide)) (h_w1 := fun h => absurd h (by show ¬ (0 : Int) = 1; decide)) (h_d0 := fun h => absurd h (by show ¬ (0 : Int) = 1; decide)) (h_d1 := fun h => absurd h (by show ¬ (0 : Int) = 1; decide)) (h_e0 := fun h => absurd h (by show ¬ (0 : Int) = 1; decide)) (h_e1 := fun h => absurd h (by show ¬ (0 : Int) = 1; decide)) (h_q0 := fun h => absurd h (by show ¬ (0 : Int) = 1; decide)) (h_q1 := fun h => absurd h (by show ¬ (0 : Int) = 1; decide)) (h_su0 := S.su0) (h_su1 := by show σ.su ≤ _; omega) (h_st0 := S.st0) (h_st1 := by show σ.st ≤ _; omega) (h_pl0 := S.pl0) (h_pl1 := by show σ.pl ≤ _; omega) (h_stalls0 := S.stalls0) (h_stalls1 := by show σ.stalls ≤ _; omega) (h_aband0 := S.aband0) (h_aband1 := by show σ.aband ≤ _; omega) (h_fin0 := by show 0 ≤ σ.fin + 1; omega) (h_fin1 := by show σ.fin + 1 ≤ _; omega) (h_sw0 := S.sw0) (h_sw1 := by show σ.sw ≤ σ.fin + 1; omega) (h_va := S.va) (h_aa := S.aa) (h_sg := S.sg) (h_sm := sm'))
  unfold recvS
  split
  · rename_i q; exact B q
  · have D' := D 0 rfl
    split
    · rename_i ht
      rw [if_pos ht] at r1 sq
      exact (WfS.mk (h_T0 := D'.T0) (h_T1 := D'.T1) (h_t0 := D'.t0) (h_t1 := D'.t1) (h_s0 := D'.s0) (h_s1 := D'.s1) (h_v0 := by show 0 ≤ σ.vs + 1; omega) (h_v1 := by show σ.vs + 1 ≤ c.v 1; omega) (h_a0 := D'.a0) (h_a1 := D'.a1) (h_p0 := D'.p0) (h_pv := by show σ.pos ≤ (σ.vs + 1) * c.v 0; have := mulS (a := σ.vs) (b := c.v 0) (by omega); omega) (h_pa := D'.pa) (h_p2 := D'.p2) (h_l0 := D'.l0) (h_l1 := D'.l1) (h_c0 := D'.c0) (h_c1 := D'.c1) (h_n0 := D'.n0) (h_n1 := D'.n1) (h_k0 := D'.k0) (h_k1 := D'.k1) (h_g0 := D'.g0) (h_tr := D'.tr) (h_sq := fun h => absurd h (by show ¬ (0 : Int) = 1; decide)) (h_sl := D'.sl) (h_r0 := D'.r0) (h_r1 := D'.r1) (h_w0 := D'.w0) (h_w1 := D'.w1) (h_d0 := D'.d0) (h_d1 := D'.d1) (h_e0 := D'.e0) (h_e1 := D'.e1) (h_q0 := D'.q0) (h_q1 := D'.q1) (h_su0 := D'.su0) (h_su1 := D'.su1) (h_st0 := D'.st0) (h_st1 := D'.st1) (h_pl0 := D'.pl0) (h_pl1 := D'.pl1) (h_stalls0 := D'.stalls0) (h_stalls1 := D'.stalls1) (h_aband0 := D'.aband0) (h_aband1 := D'.aband1) (h_fin0 := D'.fin0) (h_fin1 := D'.fin1) (h_sw0 := by show 0 ≤ (if 1 ≤ σ.vs ∧ σ.rung ≠ σ.va (σ.vs - 1).toNat then σ.sw + 1 else σ.sw); split <;> omega) (h_sw1 := by show (if 1 ≤ σ.vs ∧ σ.rung ≠ σ.va (σ.vs - 1).toNat then σ.sw + 1 else σ.sw) ≤ σ.fin + 1; split <;> omega) (h_va := by
          show ∀ k : Nat, (k : Int) < σ.vs + 1 → 0 ≤ updI σ.va σ.vs.toNat σ.rung k ∧ updI σ.va σ.vs.toNat σ.rung k < c.vn
          intro k hk
          unfold updI
          split
          · exact ⟨r0, r1⟩
          · exact hva k (by omega)) (h_aa := D'.aa) (h_sg := D'.sg) (h_sm := D'.sm))
    · rename_i ht
      rw [if_neg ht] at r1 sq
      exact (WfS.mk (h_T0 := D'.T0) (h_T1 := D'.T1) (h_t0 := D'.t0) (h_t1 := D'.t1) (h_s0 := D'.s0) (h_s1 := D'.s1) (h_v0 := D'.v0) (h_v1 := D'.v1) (h_a0 := by show 0 ≤ σ.as + 1; omega) (h_a1 := by show σ.as + 1 ≤ c.v 1; omega) (h_p0 := D'.p0) (h_pv := D'.pv) (h_pa := by
          show 0 < c.an → σ.pos ≤ (σ.as + 1) * c.v 0
          intro h
          have := pa h
          have := mulS (a := σ.as) (b := c.v 0) (by omega); omega) (h_p2 := D'.p2) (h_l0 := D'.l0) (h_l1 := D'.l1) (h_c0 := D'.c0) (h_c1 := D'.c1) (h_n0 := D'.n0) (h_n1 := D'.n1) (h_k0 := D'.k0) (h_k1 := D'.k1) (h_g0 := D'.g0) (h_tr := D'.tr) (h_sq := fun h => absurd h (by show ¬ (0 : Int) = 1; decide)) (h_sl := D'.sl) (h_r0 := D'.r0) (h_r1 := D'.r1) (h_w0 := D'.w0) (h_w1 := D'.w1) (h_d0 := D'.d0) (h_d1 := D'.d1) (h_e0 := D'.e0) (h_e1 := D'.e1) (h_q0 := D'.q0) (h_q1 := D'.q1) (h_su0 := D'.su0) (h_su1 := D'.su1) (h_st0 := D'.st0) (h_st1 := D'.st1) (h_pl0 := D'.pl0) (h_pl1 := D'.pl1) (h_stalls0 := D'.stalls0) (h_stalls1 := D'.stalls1) (h_aband0 := D'.aband0) (h_aband1 := D'.aband1) (h_fin0 := D'.fin0) (h_fin1 := D'.fin1) (h_sw0 := D'.sw0) (h_sw1 := D'.sw1) (h_va := D'.va) (h_aa := by
          show ∀ k : Nat, (k : Int) < σ.as + 1 → 0 ≤ updI σ.aa σ.as.toNat σ.rung k ∧ updI σ.aa σ.as.toNat σ.rung k < c.an
          intro k hk
          unfold updI
          split
          · exact ⟨r0, r1⟩
          · exact haa k (by omega)) (h_sg := D'.sg) (h_sm := D'.sm))
theorem c_put7 {n : Int} {N : Nat} {x : Int32} {segs : Int32} {r : Nat → Int32} {f : Nat → Int} (h : segs.toInt = n) (h0 : 0 ≤ n) (h1 : n < 200) (hr : ∀ k : Nat, (k : Int) < n → (r k).toInt = f k) :
    f_X7_put segs r x = (segs + 1, upd r segs.toNatClampNeg x) ∧ (segs + 1).toInt = n + 1 ∧ ∀ k : Nat, (k : Int) < n + 1 → (upd r segs.toNatClampNeg x k).toInt = updI f n.toNat x.toInt k := by
  refine ⟨?_, ?_, ?_⟩
  · unfold f_X7_put
    rw [if_neg (by rw [lt32]; simp only [Int32.reduceToInt]; omega), if_neg (by rw [le32]; simp only [Int32.reduceToInt]; omega)]; rfl
  · rw [add32 (by simp only [Int32.reduceToInt]; omega) (by simp only [Int32.reduceToInt]; omega), h]; rfl
  · intro k hk
    unfold upd updI
    rw [tn, h]
    split
    · rfl
    · exact hr k (by omega)
theorem c_at7 {n : Int} {segs i : Int32} {r : Nat → Int32} (h : segs.toInt = n) (h1 : n ≤ 200) (i0 : 0 ≤ i.toInt) (i1 : i.toInt < n) : f_X7_rungAt segs r i = r i.toInt.toNat := by
  unfold f_X7_rungAt
  rw [if_neg (by rw [lt32]; simp only [Int32.reduceToInt]; omega), if_neg (by rw [le32]; omega), if_neg (by rw [le32]; simp only [Int32.reduceToInt]; omega)]; rfl
theorem c_recv {c : Cf} {σ : Ss} (W : WfC c) {T : Int} (S : WfS c T σ) (G : σ.going = 1) (hT : T + 1 ≤ 41000000) {va8 : Nat → Int32} {vn : Int32} {vr : Nat → Int32} {an : Int32} {ar : Nat → Int32} {tot ph : Int32} {ln fl : Nat → Int32} (K : CC c va8 vn vr an ar tot ph ln fl) {last : Int32} {chg : Int32} {state : Int32} {time : Int32} {pos : Int32} {su : Int32} {st : Int32} {pl : Int32} {stalls : Int32} {aband : Int32} {fin : Int32} {sw : Int32} {wasted : Int64} {qual : Int64} {as : Int32} {aa : Nat → Int32} {going : Int32} {track : Int32} {seg : Int32} {rung : Int32} {wait : Int32} {dur : Int32} {need : Int64} {got : Int64} {len : Int32} {sg : Nat → Int32} {kept : Int32} {bits : Nat → Int64} {durs : Nat → Int64} {vs : Int32} {va : Nat → Int32} (R : RC c σ last chg state time pos su st pl stalls aband fin sw wasted qual as aa going track seg rung wait dur need got len sg kept bits durs vs va) :
    ∃ fin' sw' as' aa' going' wait' dur' got' kept' bits' durs' vs' va', f_X6_receive time fin sw as aa going track rung wait dur need got kept bits durs tot ph ln fl vs va = (fin', sw', as', aa', going', wait', dur', got', kept', bits', durs', vs', va') ∧ RC c (recvS c σ) last chg state time pos su st pl stalls aband fin' sw' wasted qual as' aa' going' track seg rung wait' dur' need got' len sg kept' bits' durs' vs' va' := by
  have gb := gotS_b W S G
  have T1 := S.T1
  have t0 := S.t0
  have t1 := S.t1
  have fin1 := S.fin1
  have fin0 := S.fin0
  have sw0 := S.sw0
  have sw1 := S.sw1
  have w0 := S.w0 G
  have w1 := S.w1 G
  have d0 := S.d0 G
  have d1 := S.d1 G
  have q0 := S.q0 G
  have q1 := S.q1 G
  have e0 := S.e0 G
  have e1 := S.e1 G
  have k0 := S.k0
  have k1 := S.k1
  have v0 := S.v0
  have a0 := S.a0
  have m1 := W.m1
  have sq := S.sq G
  have sl := S.sl G
  have htr := S.tr G
  have Rw := R.wait G
  have Rd := R.dur G
  have Rg := R.got G
  have Rn := R.need G
  have Rt := R.track G
  have Rr := R.rung G
  have Rk := R.kept
  have Rfin := R.fin
  have Rsw := R.sw
  have Rtime := R.time
  have fb := flowS_b W (t := σ.time)
  have ef : (f_X4_rateAt tot ph ln fl time).toInt = flowS c σ.time := by rw [c_flow W K.tot K.ph K.ln K.fl (by omega), Rtime]
  have ed : (dur + 1).toInt = σ.dur + 1 := by rw [add32 (by simp only [Int32.reduceToInt]; omega) (by simp only [Int32.reduceToInt]; omega), Rd]; rfl
  have hA : ∃ wa' go', f_X1_receiveAt wait dur need got (f_X4_rateAt tot ph ln fl time) = (wa', dur + 1, go') ∧ wa'.toInt = waitS σ ∧ go'.toInt = gotS c σ := by
    unfold f_X1_receiveAt waitS gotS
    by_cases h : 0 < σ.wait
    · rw [if_neg (by rw [le32]; simp only [Int32.reduceToInt]; omega), if_pos h, if_pos h]
      refine ⟨_, _, rfl, ?_, Rg⟩
      rw [sub32 (by simp only [Int32.reduceToInt]; omega) (by simp only [Int32.reduceToInt]; omega), Rw]; rfl
    · rw [if_pos (by rw [le32]; simp only [Int32.reduceToInt]; omega), if_neg h, if_neg h]
      have es : (need - got).toInt = σ.need - σ.got := by rw [sub64 (by omega) (by omega), Rn, Rg]
      have em : (mn64 (f_X4_rateAt tot ph ln fl time).toInt64 (need - got)).toInt = min (flowS c σ.time) (σ.need - σ.got) := by rw [min64, tl, ef, es]
      refine ⟨_, _, rfl, Rw, ?_⟩
      rw [add64 (by omega) (by omega), em, Rg]
  obtain ⟨wa', go', hh, ew, eg⟩ := hA
  have P : RC c (partS c σ) last chg state time pos su st pl stalls aband fin sw wasted qual as aa going track seg rung wa' (dur + 1) need go' len sg kept bits durs vs va :=
    (RC.mk (h_last := R.last) (h_chg := R.chg) (h_state := R.state) (h_time := R.time) (h_pos := R.pos) (h_su := R.su) (h_st := R.st) (h_pl := R.pl) (h_stalls := R.stalls) (h_aband := R.aband) (h_fin := R.fin) (h_sw := R.sw) (h_wasted := R.wasted) (h_qual := R.qual) (h_as := R.as) (h_aa := R.aa) (h_going := R.going) (h_track := R.track) (h_seg := R.seg) (h_rung := R.rung) (h_wait := fun _ => ew) (h_dur := fun _ => ed) (h_need := R.need) (h_got := fun _ => eg) (h_len := R.len) (h_sg := R.sg) (h_ft := R.ft) (h_kept := R.kept) (h_bits := R.bits) (h_durs := R.durs) (h_vs := R.vs) (h_va := R.va))
  have w1' : gotS c σ < σ.need → f_X1_isWhole need go' = 0 := fun h => by unfold f_X1_isWhole; rw [if_pos (by rw [lt64]; omega)]
  have w2' : ¬ gotS c σ < σ.need → f_X1_isWhole need go' = 1 := fun h => by unfold f_X1_isWhole; rw [if_neg (by rw [lt64]; omega)]
  unfold f_X6_receive recvS
  simp only [hh, bnd3]
  by_cases h : gotS c σ < σ.need
  · rw [w1' h, if_pos rfl, if_pos h]
    exact ⟨_, _, _, _, _, _, _, _, _, _, _, _, _, rfl, P⟩
  · rw [w2' h, if_neg one_z, if_neg h]
    have ek : (mn32 (kept + 1) 10).toInt = min (σ.kept + 1) 10 := by
      rw [min32, add32 (by simp only [Int32.reduceToInt]; omega) (by simp only [Int32.reduceToInt]; omega), Rk]; rfl
    have efn : (fin + 1).toInt = σ.fin + 1 := by rw [add32 (by simp only [Int32.reduceToInt]; omega) (by simp only [Int32.reduceToInt]; omega), Rfin]; rfl
    have eb : ∀ (x : Int64) (r : Nat → Int64) (f : Nat → Int), (∀ k : Nat, (k : Int) < σ.kept → (r k).toInt = f k) → ∀ k : Nat, (k : Int) < min (σ.kept + 1) 10 → (vp_updL (va_cpy r r 0 1 9) 0 x k).toInt = putB x.toInt f k := by
      intro x r f hr k hk
      unfold vp_updL va_cpy putB
      by_cases z : k = 0
      · rw [if_pos z, if_pos z]
      · rw [if_neg z, if_neg z, if_pos (by omega), Nat.zero_add]; exact hr (k - 1) (by omega)
    have D : RC c (doneS (partS c σ)) last chg state time pos su st pl stalls aband (fin + 1) sw wasted qual as aa 0 track seg rung wa' (dur + 1) need go' len sg (mn32 (kept + 1) 10) (vp_updL (va_cpy bits bits 0 1 9) 0 need) (vp_updL (va_cpy durs durs 0 1 9) 0 (dur + 1).toInt64) vs va :=
      (RC.mk (h_last := P.last) (h_chg := P.chg) (h_state := P.state) (h_time := P.time) (h_pos := P.pos) (h_su := P.su) (h_st := P.st) (h_pl := P.pl) (h_stalls := P.stalls) (h_aband := P.aband) (h_fin := efn) (h_sw := P.sw) (h_wasted := P.wasted) (h_qual := P.qual) (h_as := P.as) (h_aa := P.aa) (h_going := rfl) (h_track := fun h => absurd h (by show ¬ (0 : Int) = 1; decide)) (h_seg := fun h => absurd h (by show ¬ (0 : Int) = 1; decide)) (h_rung := fun h => absurd h (by show ¬ (0 : Int) = 1; decide)) (h_wait := fun h => absurd h (by show ¬ (0 : Int) = 1; decide)) (h_dur := fun h => absurd h (by show ¬ (0 : Int) = 1; decide)) (h_need := fun h => absurd h (by show ¬ (0 : Int) = 1; decide)) (h_got := fun h => absurd h (by show ¬ (0 : Int) = 1; decide)) (h_len := P.len) (h_sg := P.sg) (h_ft := P.ft) (h_kept := ek) (h_bits := by have := eb need bits σ.bits R.bits; rw [Rn] at this; exact this) (h_durs := by have := eb (dur + 1).toInt64 durs σ.durs R.durs; rw [tl, ed] at this; exact this) (h_vs := P.vs) (h_va := P.va))
    unfold f_X5_put
    simp only [bnd, bnd2]
    by_cases ht : σ.track = 0
    · rw [if_pos ht] at sq
      rw [if_pos (by rw [eq32, Rt, ht]; rfl), if_pos ht]
      obtain ⟨p1, p2, p3⟩ := c_put7 (N := 0) (x := rung) R.vs v0 (by omega) R.va
      have s1 : (vs + 1 - 1).toInt = σ.vs := by rw [sub32 (by simp only [Int32.reduceToInt]; omega) (by simp only [Int32.reduceToInt]; omega), p2]; simp only [Int32.reduceToInt]; omega
      have s2 : (vs + 1 - 2).toInt = σ.vs - 1 := by rw [sub32 (by simp only [Int32.reduceToInt]; omega) (by simp only [Int32.reduceToInt]; omega), p2]; simp only [Int32.reduceToInt]; omega
      have esw : (sw + 1).toInt = σ.sw + 1 := by rw [add32 (by simp only [Int32.reduceToInt]; omega) (by simp only [Int32.reduceToInt]; omega), Rsw]; rfl
      have p3' : ∀ k : Nat, (k : Int) < σ.vs + 1 → (upd va vs.toNatClampNeg rung k).toInt = updI σ.va σ.vs.toNat σ.rung k := by rw [Rr] at p3; exact p3
      have Q : ∀ sw' : Int32, sw'.toInt = (if 1 ≤ σ.vs ∧ σ.rung ≠ σ.va (σ.vs - 1).toNat then σ.sw + 1 else σ.sw) → RC c (doneV (doneS (partS c σ))) last chg state time pos su st pl stalls aband (fin + 1) sw' wasted qual as aa 0 track seg rung wa' (dur + 1) need go' len sg (mn32 (kept + 1) 10) (vp_updL (va_cpy bits bits 0 1 9) 0 need) (vp_updL (va_cpy durs durs 0 1 9) 0 (dur + 1).toInt64) (vs + 1) (upd va vs.toNatClampNeg rung) := fun sw' h => (RC.mk (h_last := D.last) (h_chg := D.chg) (h_state := D.state) (h_time := D.time) (h_pos := D.pos) (h_su := D.su) (h_st := D.st) (h_pl := D.pl) (h_stalls := D.stalls) (h_aband := D.aband) (h_fin := D.fin) (h_sw := h) (h_wasted := D.wasted) (h_qual := D.qual) (h_as := D.as) (h_aa := D.aa) (h_going := D.going) (h_track := D.track) (h_seg := D.seg) (h_rung := D.rung) (h_wait := D.wait) (h_dur := D.dur) (h_need := D.need) (h_got := D.got) (h_len := D.len) (h_sg := D.sg) (h_ft := D.ft) (h_kept := D.kept) (h_bits := D.bits) (h_durs := D.durs) (h_vs := p2) (h_va := p3'))
      simp only [p1]
      by_cases hz : (f_X7_endsInSwitch (vs + 1) (upd va vs.toNatClampNeg rung)) = 0
      · rw [if_pos hz]
        refine ⟨_, _, _, _, _, _, _, _, _, _, _, _, _, rfl, Q _ ?_⟩
        unfold f_X7_endsInSwitch at hz
        by_cases h2 : 1 ≤ σ.vs
        · rw [if_neg (by rw [lt32]; simp only [Int32.reduceToInt]; omega), c_at7 p2 (by omega) (by omega) (by omega), c_at7 p2 (by omega) (by omega) (by omega)] at hz
          split at hz
          · rename_i e
            rw [eq32, p3' _ (by omega), p3' _ (by omega), s1, s2] at e
            unfold updI at e
            rw [if_pos rfl, if_neg (by omega)] at e
            rw [if_neg (fun o => o.2 e)]; exact Rsw
          · exact absurd hz one_z
        · rw [if_neg (fun o => h2 o.1)]; exact Rsw
      · rw [if_neg hz]
        refine ⟨_, _, _, _, _, _, _, _, _, _, _, _, _, rfl, Q _ ?_⟩
        unfold f_X7_endsInSwitch at hz
        by_cases h2 : 1 ≤ σ.vs
        · rw [if_neg (by rw [lt32]; simp only [Int32.reduceToInt]; omega), c_at7 p2 (by omega) (by omega) (by omega), c_at7 p2 (by omega) (by omega) (by omega)] at hz
          split at hz
          · exact absurd rfl hz
          · rename_i e
            rw [eq32, p3' _ (by omega), p3' _ (by omega), s1, s2] at e
            unfold updI at e
            rw [if_pos rfl, if_neg (by omega)] at e
            rw [if_pos ⟨h2, e⟩]; exact esw
        · rw [if_pos (by rw [lt32]; simp only [Int32.reduceToInt]; omega)] at hz; exact absurd rfl hz
    · rw [if_neg ht] at sq
      rw [if_neg (by rw [eq32, Rt]; exact ht), if_neg ht]
      obtain ⟨p1, p2, p3⟩ := c_put7 (N := 0) (x := rung) R.as a0 (by omega) R.aa
      have p3' : ∀ k : Nat, (k : Int) < σ.as + 1 → (upd aa as.toNatClampNeg rung k).toInt = updI σ.aa σ.as.toNat σ.rung k := by rw [Rr] at p3; exact p3
      simp only [p1]
      exact ⟨_, _, _, _, _, _, _, _, _, _, _, _, _, rfl, (RC.mk (h_last := D.last) (h_chg := D.chg) (h_state := D.state) (h_time := D.time) (h_pos := D.pos) (h_su := D.su) (h_st := D.st) (h_pl := D.pl) (h_stalls := D.stalls) (h_aband := D.aband) (h_fin := D.fin) (h_sw := D.sw) (h_wasted := D.wasted) (h_qual := D.qual) (h_as := p2) (h_aa := p3') (h_going := D.going) (h_track := D.track) (h_seg := D.seg) (h_rung := D.rung) (h_wait := D.wait) (h_dur := D.dur) (h_need := D.need) (h_got := D.got) (h_len := D.len) (h_sg := D.sg) (h_ft := D.ft) (h_kept := D.kept) (h_bits := D.bits) (h_durs := D.durs) (h_vs := D.vs) (h_va := D.va))⟩
