/-! the time line, the accounts, the whole millisecond -/
def signS (c : Cf) (σ : Ss) : Int := if σ.state = 1 then 115 else if σ.state = 2 then 48 + σ.va ((σ.pos - 1) / c.v 0).toNat else if σ.state = 3 then 45 else 101
def tellsS (c : Cf) (σ : Ss) : Ss := if σ.time % 1000 = 0 ∧ σ.len < 300 then (Ss.mk (σ.time) (σ.pos) (σ.state) (σ.vs) (σ.as) (σ.going) (σ.track) (σ.seg) (σ.rung) (σ.wait) (σ.dur) (σ.got) (σ.need) (σ.last) (σ.chg) (σ.su) (σ.st) (σ.pl) (σ.stalls) (σ.aband) (σ.fin) (σ.sw) (σ.len + 1) (σ.kept) (σ.wasted) (σ.qual) (σ.va) (σ.aa) (updI σ.sg σ.len.toNat (signS c σ)) (σ.bits) (σ.durs)) else σ
def spendS (σ : Ss) : Ss := (Ss.mk (σ.time + 1) (σ.pos) (σ.state) (σ.vs) (σ.as) (σ.going) (σ.track) (σ.seg) (σ.rung) (σ.wait) (σ.dur) (σ.got) (σ.need) (σ.last) (σ.chg) (if σ.state = 1 then σ.su + 1 else σ.su) (if σ.state = 3 then σ.st + 1 else σ.st) (if σ.state = 2 then σ.pl + 1 else σ.pl) (σ.stalls) (σ.aband) (σ.fin) (σ.sw) (σ.len) (σ.kept) (σ.wasted) (σ.qual) (σ.va) (σ.aa) (σ.sg) (σ.bits) (σ.durs))
def dlS (c : Cf) (mode : Int) (σ : Ss) : Ss := if σ.going = 1 then σ else nextS c σ mode
def rvS (c : Cf) (σ : Ss) : Ss := if σ.going = 1 then recvS c σ else σ
def tickS (c : Cf) (mode th : Int) (σ : Ss) : Ss := spendS (playsS c th (givesS c (rvS c (dlS c mode (tellsS c σ)))))
theorem chk_upd {f : Nat → Int32} {k n : Nat} {x : Int32} (h : chk f n = true) : chk (upd f k (ch32 x)) n = true := by
  unfold chk at *
  rw [List.all_eq_true] at *
  intro j hj
  show fits .char (.int (upd f k (ch32 x) j)) = true
  unfold upd
  split
  · exact pk_fc x
  · exact h j hj
theorem signS_b {c : Cf} {σ : Ss} (W : WfC c) {T : Int} (S : WfS c T σ) (V : 1 ≤ c.vn) : 0 ≤ signS c σ ∧ signS c σ ≤ 65535 := by
  have s0 := S.s0
  have pv := S.pv
  have p2 := S.p2
  have vn1 := W.vn1
  unfold signS
  split
  · omega
  · split
    · rename_i h
      have := p2 h
      have sn := seg_now W S (q := σ.pos - 1) (by omega) (by omega)
      have := S.va ((σ.pos - 1) / c.v 0).toNat (by omega)
      omega
    · split <;> omega
theorem tells_wf {c : Cf} {σ : Ss} (W : WfC c) {T : Int} (S : WfS c T σ) (V : 1 ≤ c.vn) : WfS c T (tellsS c σ) := by
  have sb := signS_b W S V
  have n0 := S.n0
  have sg := S.sg
  unfold tellsS
  split
  · rename_i h
    have h2 := h.2
    have q : ∀ k : Nat, (k : Int) < σ.len + 1 → 0 ≤ updI σ.sg σ.len.toNat (signS c σ) k ∧ updI σ.sg σ.len.toNat (signS c σ) k ≤ 65535 := by
      intro k hk
      unfold updI
      split
      · exact sb
      · exact sg k (by omega)
    exact (WfS.mk (h_T0 := S.T0) (h_T1 := S.T1) (h_t0 := S.t0) (h_t1 := S.t1) (h_s0 := S.s0) (h_s1 := S.s1) (h_v0 := S.v0) (h_v1 := S.v1) (h_a0 := S.a0) (h_a1 := S.a1) (h_p0 := S.p0) (h_pv := S.pv) (h_pa := S.pa) (h_p2 := S.p2) (h_l0 := S.l0) (h_l1 := S.l1) (h_c0 := S.c0) (h_c1 := S.c1) (h_n0 := by show 0 ≤ σ.len + 1; omega) (h_n1 := by show σ.len + 1 ≤ 300; omega) (h_k0 := S.k0) (h_k1 := S.k1) (h_g0 := S.g0) (h_tr := S.tr) (h_sq := S.sq) (h_sl := S.sl) (h_r0 := S.r0) (h_r1 := S.r1) (h_w0 := S.w0) (h_w1 := S.w1) (h_d0 := S.d0) (h_d1 := S.d1) (h_e0 := S.e0) (h_e1 := S.e1) (h_q0 := S.q0) (h_q1 := S.q1) (h_su0 := S.su0) (h_su1 := S.su1) (h_st0 := S.st0) (h_st1 := S.st1) (h_pl0 := S.pl0) (h_pl1 := S.pl1) (h_stalls0 := S.stalls0) (h_stalls1 := S.stalls1) (h_aband0 := S.aband0) (h_aband1 := S.aband1) (h_fin0 := S.fin0) (h_fin1 := S.fin1) (h_sw0 := S.sw0) (h_sw1 := S.sw1) (h_va := S.va) (h_aa := S.aa) (h_sg := q) (h_sm := S.sm))
  · exact S
theorem spend_wf {c : Cf} {σ : Ss} {T : Int} (S : WfS c T σ) (hT : T + 1 ≤ 41000000) (ht : σ.time + 1 ≤ 10020000) : WfS c (T + 1) (spendS σ) := by
  have S' := mono_wf S hT
  have t0 := S.t0
  have c1 := S.c1
  have su0 := S.su0
  have su1 := S.su1
  have st0 := S.st0
  have st1 := S.st1
  have pl0 := S.pl0
  have pl1 := S.pl1
  exact (WfS.mk (h_T0 := S'.T0) (h_T1 := S'.T1) (h_t0 := by show 0 ≤ σ.time + 1; omega) (h_t1 := ht) (h_s0 := S'.s0) (h_s1 := S'.s1) (h_v0 := S'.v0) (h_v1 := S'.v1) (h_a0 := S'.a0) (h_a1 := S'.a1) (h_p0 := S'.p0) (h_pv := S'.pv) (h_pa := S'.pa) (h_p2 := S'.p2) (h_l0 := S'.l0) (h_l1 := S'.l1) (h_c0 := S'.c0) (h_c1 := by show σ.chg ≤ σ.time + 1; omega) (h_n0 := S'.n0) (h_n1 := S'.n1) (h_k0 := S'.k0) (h_k1 := S'.k1) (h_g0 := S'.g0) (h_tr := S'.tr) (h_sq := S'.sq) (h_sl := S'.sl) (h_r0 := S'.r0) (h_r1 := S'.r1) (h_w0 := S'.w0) (h_w1 := S'.w1) (h_d0 := S'.d0) (h_d1 := S'.d1) (h_e0 := S'.e0) (h_e1 := S'.e1) (h_q0 := S'.q0) (h_q1 := S'.q1) (h_su0 := by show 0 ≤ (if σ.state = 1 then σ.su + 1 else σ.su); split <;> omega) (h_su1 := by show (if σ.state = 1 then σ.su + 1 else σ.su) ≤ T + 1; split <;> omega) (h_st0 := by show 0 ≤ (if σ.state = 3 then σ.st + 1 else σ.st); split <;> omega) (h_st1 := by show (if σ.state = 3 then σ.st + 1 else σ.st) ≤ T + 1; split <;> omega) (h_pl0 := by show 0 ≤ (if σ.state = 2 then σ.pl + 1 else σ.pl); split <;> omega) (h_pl1 := by show (if σ.state = 2 then σ.pl + 1 else σ.pl) ≤ T + 1; split <;> omega) (h_stalls0 := S'.stalls0) (h_stalls1 := S'.stalls1) (h_aband0 := S'.aband0) (h_aband1 := S'.aband1) (h_fin0 := S'.fin0) (h_fin1 := S'.fin1) (h_sw0 := S'.sw0) (h_sw1 := S'.sw1) (h_va := S'.va) (h_aa := S'.aa) (h_sg := S'.sg) (h_sm := S'.sm))
theorem tells_time {c : Cf} {σ : Ss} : (tellsS c σ).time = σ.time ∧ (tellsS c σ).going = σ.going := by unfold tellsS; split <;> exact ⟨rfl, rfl⟩
theorem next_time {c : Cf} {σ : Ss} {mode : Int} : (nextS c σ mode).time = σ.time := by unfold nextS; split <;> (try split) <;> rfl
theorem dl_time {c : Cf} {σ : Ss} {mode : Int} : (dlS c mode σ).time = σ.time := by unfold dlS; split <;> first | rfl | exact next_time
theorem recv_time {c : Cf} {σ : Ss} : (recvS c σ).time = σ.time := by unfold recvS; split <;> (try split) <;> rfl
theorem rv_time {c : Cf} {σ : Ss} : (rvS c σ).time = σ.time := by unfold rvS; split <;> first | rfl | exact recv_time
theorem gives_time {c : Cf} {σ : Ss} : (givesS c σ).time = σ.time := by unfold givesS cutDone; split <;> (try split) <;> rfl
theorem plays_time {c : Cf} {σ : Ss} {th : Int} : (playsS c th σ).time = σ.time := by unfold playsS playS; split <;> (try split) <;> (try split) <;> rfl
theorem dl_wf {c : Cf} {σ : Ss} (W : WfC c) {T : Int} (S : WfS c T σ) (V : 1 ≤ c.vn) (mode : Int) : WfS c T (dlS c mode σ) := by unfold dlS; split; exact S; exact next_wf W S V mode
theorem rv_wf {c : Cf} {σ : Ss} (W : WfC c) {T : Int} (S : WfS c T σ) (V : 1 ≤ c.vn) (hT : T + 1 ≤ 41000000) : WfS c (T + 1) (rvS c σ) := by
  unfold rvS; split
  · rename_i h; exact recv_wf W S h hT
  · exact mono_wf S hT
theorem tick_wf {c : Cf} {σ : Ss} (W : WfC c) {T : Int} (S : WfS c T σ) (V : 1 ≤ c.vn) (mode th : Int) (hT : T + 4 ≤ 41000000) (ht : σ.time + 1 ≤ 10020000) : WfS c (T + 4) (tickS c mode th σ) ∧ (tickS c mode th σ).time = σ.time + 1 := by
  have e : (playsS c th (givesS c (rvS c (dlS c mode (tellsS c σ))))).time = σ.time := by rw [plays_time, gives_time, rv_time, dl_time, tells_time.1]
  have h1 := rv_wf W (dl_wf W (tells_wf W S V) V mode) V (by omega)
  have h2 := gives_wf W h1 (by omega)
  have h3 := plays_wf W h2 (by omega) th
  have h4 := spend_wf h3 (by omega) (by rw [e]; exact ht)
  refine ⟨?_, ?_⟩
  · have : T + 1 + 1 + 1 + 1 = T + 4 := by omega
    rw [this] at h4; exact h4
  · unfold tickS spendS; show _ + 1 = _; rw [e]
theorem c_tells {c : Cf} {σ : Ss} (W : WfC c) {T : Int} (S : WfS c T σ) (V : 1 ≤ c.vn) {va8 : Nat → Int32} {vn : Int32} {vr : Nat → Int32} {an : Int32} {ar : Nat → Int32} {tot ph : Int32} {ln fl : Nat → Int32} (K : CC c va8 vn vr an ar tot ph ln fl) {last : Int32} {chg : Int32} {state : Int32} {time : Int32} {pos : Int32} {su : Int32} {st : Int32} {pl : Int32} {stalls : Int32} {aband : Int32} {fin : Int32} {sw : Int32} {wasted : Int64} {qual : Int64} {as : Int32} {aa : Nat → Int32} {going : Int32} {track : Int32} {seg : Int32} {rung : Int32} {wait : Int32} {dur : Int32} {need : Int64} {got : Int64} {len : Int32} {sg : Nat → Int32} {kept : Int32} {bits : Nat → Int64} {durs : Nat → Int64} {vs : Int32} {va : Nat → Int32} (R : RC c σ last chg state time pos su st pl stalls aband fin sw wasted qual as aa going track seg rung wait dur need got len sg kept bits durs vs va) :
    (¬ (rm32 time 1000 = 0) ∧ tellsS c σ = σ) ∨ (rm32 time 1000 = 0 ∧ ∃ len' sg', f_X3_put len sg (f_X6_signNow state pos va8 vs va) = (len', sg') ∧ RC c (tellsS c σ) last chg state time pos su st pl stalls aband fin sw wasted qual as aa going track seg rung wait dur need got len' sg' kept bits durs vs va) := by
  have t0 := S.t0
  have n0 := S.n0
  have n1 := S.n1
  have s0 := S.s0
  have s1 := S.s1
  have pv := S.pv
  have d0 := W.d0
  have m1 := W.m1
  have v1 := S.v1
  have vn1 := W.vn1
  have vD := WfS.vD W S
  have Rt := R.time
  have Rs := R.state
  have Rp := R.pos
  have Rl := R.len
  have k0 := K.v 0 (by decide)
  have v0 : f_X8_valueOf va8 0 = va8 0 := vo (by decide) (by decide)
  have sb := signS_b W S V
  have er : (rm32 time 1000).toInt = σ.time % 1000 := by rw [rem32 (by omega) (by decide), Rt]; rfl
  by_cases h : σ.time % 1000 = 0
  · refine Or.inr ⟨by rw [eq32, er, h]; rfl, ?_⟩
    have esg : (f_X6_signNow state pos va8 vs va).toInt = signS c σ := by
      unfold f_X6_signNow
      by_cases g1 : σ.state = 1
      · rw [if_pos (by rw [eq32, Rs, g1]; rfl)]; unfold signS; rw [if_pos g1]; rfl
      · rw [if_neg (by rw [eq32, Rs]; exact g1)]
        by_cases g2 : σ.state = 2
        · have p2 := S.p2 g2
          have sn := seg_now W S (q := σ.pos - 1) (by omega) (by omega)
          have vb := S.va ((σ.pos - 1) / c.v 0).toNat (by omega)
          have ep : (pos - 1).toInt = σ.pos - 1 := by rw [sub32 (by simp only [Int32.reduceToInt]; omega) (by simp only [Int32.reduceToInt]; omega), Rp]; rfl
          have eseg : (f_X8_segmentAt va8 (pos - 1)).toInt = (σ.pos - 1) / c.v 0 := by
            unfold f_X8_segmentAt
            rw [v0, if_neg (by rw [le32, k0]; simp only [Int32.reduceToInt]; omega), div32 (by omega) (by omega), ep, k0]
          have erung : f_X7_rungAt vs va (f_X8_segmentAt va8 (pos - 1)) = va ((σ.pos - 1) / c.v 0).toNat := by rw [c_at7 R.vs (by omega) (by omega) (by omega), eseg]
          have erv : (va ((σ.pos - 1) / c.v 0).toNat).toInt = σ.va ((σ.pos - 1) / c.v 0).toNat := R.va _ (by omega)
          have ea : (48 + va ((σ.pos - 1) / c.v 0).toNat).toInt = 48 + σ.va ((σ.pos - 1) / c.v 0).toNat := by rw [add32 (by simp only [Int32.reduceToInt]; omega) (by simp only [Int32.reduceToInt]; omega), erv]; rfl
          rw [if_pos (by rw [eq32, Rs, g2]; rfl), erung, ch_id (by omega) (by omega), ea]
          unfold signS; rw [if_neg g1, if_pos g2]
        · rw [if_neg (by rw [eq32, Rs]; exact g2)]
          by_cases g3 : σ.state = 3
          · rw [if_pos (by rw [eq32, Rs, g3]; rfl)]; unfold signS; rw [if_neg g1, if_neg g2, if_pos g3]; rfl
          · rw [if_neg (by rw [eq32, Rs]; exact g3), if_pos (by rw [eq32, Rs]; simp only [Int32.reduceToInt]; omega)]; unfold signS; rw [if_neg g1, if_neg g2, if_neg g3]; rfl
    unfold f_X3_put tellsS
    rw [if_neg (by rw [lt32, Rl]; simp only [Int32.reduceToInt]; omega)]
    by_cases g : σ.len < 300
    · rw [if_neg (by rw [le32, Rl]; simp only [Int32.reduceToInt]; omega), if_pos ⟨h, g⟩]
      refine ⟨_, _, rfl, (RC.mk (h_last := R.last) (h_chg := R.chg) (h_state := R.state) (h_time := R.time) (h_pos := R.pos) (h_su := R.su) (h_st := R.st) (h_pl := R.pl) (h_stalls := R.stalls) (h_aband := R.aband) (h_fin := R.fin) (h_sw := R.sw) (h_wasted := R.wasted) (h_qual := R.qual) (h_as := R.as) (h_aa := R.aa) (h_going := R.going) (h_track := R.track) (h_seg := R.seg) (h_rung := R.rung) (h_wait := R.wait) (h_dur := R.dur) (h_need := R.need) (h_got := R.got) (h_len := ?_) (h_sg := ?_) (h_ft := ?_) (h_kept := R.kept) (h_bits := R.bits) (h_durs := R.durs) (h_vs := R.vs) (h_va := R.va))⟩
      · show (len + 1).toInt = σ.len + 1
        rw [add32 (by simp only [Int32.reduceToInt]; omega) (by simp only [Int32.reduceToInt]; omega), Rl]; rfl
      · show ∀ k : Nat, (k : Int) < σ.len + 1 → (upd sg len.toNatClampNeg (vp_nar .char (f_X6_signNow state pos va8 vs va)) k).toInt = updI σ.sg σ.len.toNat (signS c σ) k
        intro k hk
        rw [nar_ch, ch_id (by omega) (by omega), tn, Rl]
        unfold upd updI
        split
        · exact esg
        · exact R.sg k (by omega)
      · show chk (upd sg len.toNatClampNeg (vp_nar .char (f_X6_signNow state pos va8 vs va))) 300 = true
        rw [nar_ch]; exact chk_upd R.ft
    · rw [if_pos (by rw [le32, Rl]; simp only [Int32.reduceToInt]; omega), if_neg (fun o => g o.2)]
      exact ⟨_, _, rfl, R⟩
  · refine Or.inl ⟨by rw [eq32, er]; exact h, ?_⟩
    unfold tellsS; rw [if_neg (fun o => h o.1)]
theorem c_spend {c : Cf} {σ : Ss} {T : Int} (S : WfS c T σ) (ht : σ.time + 1 ≤ 10020000) {last : Int32} {chg : Int32} {state : Int32} {time : Int32} {pos : Int32} {su : Int32} {st : Int32} {pl : Int32} {stalls : Int32} {aband : Int32} {fin : Int32} {sw : Int32} {wasted : Int64} {qual : Int64} {as : Int32} {aa : Nat → Int32} {going : Int32} {track : Int32} {seg : Int32} {rung : Int32} {wait : Int32} {dur : Int32} {need : Int64} {got : Int64} {len : Int32} {sg : Nat → Int32} {kept : Int32} {bits : Nat → Int64} {durs : Nat → Int64} {vs : Int32} {va : Nat → Int32} (R : RC c σ last chg state time pos su st pl stalls aband fin sw wasted qual as aa going track seg rung wait dur need got len sg kept bits durs vs va) :
    ∃ su' st' pl', f_X0_spendIn su st pl state = (su', st', pl') ∧ RC c (spendS σ) last chg state (time + 1) pos su' st' pl' stalls aband fin sw wasted qual as aa going track seg rung wait dur need got len sg kept bits durs vs va := by
  have t0 := S.t0
  have T1 := S.T1
  have su0 := S.su0
  have su1 := S.su1
  have st0 := S.st0
  have st1 := S.st1
  have pl0 := S.pl0
  have pl1 := S.pl1
  have Rs := R.state
  have Ru := R.su
  have Rt := R.st
  have Rp := R.pl
  have eu : (su + 1).toInt = σ.su + 1 := by rw [add32 (by rw [Ru]; simp only [Int32.reduceToInt]; omega) (by rw [Ru]; simp only [Int32.reduceToInt]; omega), Ru]; rfl
  have et : (st + 1).toInt = σ.st + 1 := by rw [add32 (by rw [Rt]; simp only [Int32.reduceToInt]; omega) (by rw [Rt]; simp only [Int32.reduceToInt]; omega), Rt]; rfl
  have ep : (pl + 1).toInt = σ.pl + 1 := by rw [add32 (by rw [Rp]; simp only [Int32.reduceToInt]; omega) (by rw [Rp]; simp only [Int32.reduceToInt]; omega), Rp]; rfl
  have etm : (time + 1).toInt = σ.time + 1 := by rw [add32 (by rw [R.time]; simp only [Int32.reduceToInt]; omega) (by rw [R.time]; simp only [Int32.reduceToInt]; omega), R.time]; rfl
  have X : ∀ su' st' pl' : Int32, su'.toInt = (if σ.state = 1 then σ.su + 1 else σ.su) → st'.toInt = (if σ.state = 3 then σ.st + 1 else σ.st) → pl'.toInt = (if σ.state = 2 then σ.pl + 1 else σ.pl) → RC c (spendS σ) last chg state (time + 1) pos su' st' pl' stalls aband fin sw wasted qual as aa going track seg rung wait dur need got len sg kept bits durs vs va := fun _ _ _ a b d => (RC.mk (h_last := R.last) (h_chg := R.chg) (h_state := R.state) (h_time := etm) (h_pos := R.pos) (h_su := a) (h_st := b) (h_pl := d) (h_stalls := R.stalls) (h_aband := R.aband) (h_fin := R.fin) (h_sw := R.sw) (h_wasted := R.wasted) (h_qual := R.qual) (h_as := R.as) (h_aa := R.aa) (h_going := R.going) (h_track := R.track) (h_seg := R.seg) (h_rung := R.rung) (h_wait := R.wait) (h_dur := R.dur) (h_need := R.need) (h_got := R.got) (h_len := R.len) (h_sg := R.sg) (h_ft := R.ft) (h_kept := R.kept) (h_bits := R.bits) (h_durs := R.durs) (h_vs := R.vs) (h_va := R.va))
  unfold f_X0_spendIn
  by_cases g1 : σ.state = 1
  · rw [if_pos (by rw [eq32, Rs, g1]; rfl)]
    exact ⟨_, _, _, rfl, X _ _ _ (by rw [if_pos g1]; exact eu) (by rw [if_neg (by omega)]; exact Rt) (by rw [if_neg (by omega)]; exact Rp)⟩
  · rw [if_neg (by rw [eq32, Rs]; exact g1)]
    by_cases g3 : σ.state = 3
    · rw [if_pos (by rw [eq32, Rs, g3]; rfl)]
      exact ⟨_, _, _, rfl, X _ _ _ (by rw [if_neg g1]; exact Ru) (by rw [if_pos g3]; exact et) (by rw [if_neg (by omega)]; exact Rp)⟩
    · rw [if_neg (by rw [eq32, Rs]; exact g3)]
      by_cases g2 : σ.state = 2
      · rw [if_pos (by rw [eq32, Rs, g2]; rfl)]
        exact ⟨_, _, _, rfl, X _ _ _ (by rw [if_neg g1]; exact Ru) (by rw [if_neg g3]; exact Rt) (by rw [if_pos g2]; exact ep)⟩
      · rw [if_neg (by rw [eq32, Rs]; exact g2)]
        exact ⟨_, _, _, rfl, X _ _ _ (by rw [if_neg g1]; exact Ru) (by rw [if_neg g3]; exact Rt) (by rw [if_neg g2]; exact Rp)⟩
theorem c_b80 {c : Cf} {σ : Ss} (W : WfC c) {T : Int} (S : WfS c T σ) (V : 1 ≤ c.vn) (hT : T + 1 ≤ 41000000) (ht : σ.time + 1 ≤ 10020000) {va8 : Nat → Int32} {vn : Int32} {vr : Nat → Int32} {an : Int32} {ar : Nat → Int32} {tot ph : Int32} {ln fl : Nat → Int32} (K : CC c va8 vn vr an ar tot ph ln fl) {last : Int32} {chg : Int32} {state : Int32} {time : Int32} {pos : Int32} {su : Int32} {st : Int32} {pl : Int32} {stalls : Int32} {aband : Int32} {fin : Int32} {sw : Int32} {wasted : Int64} {qual : Int64} {as : Int32} {aa : Nat → Int32} {going : Int32} {track : Int32} {seg : Int32} {rung : Int32} {wait : Int32} {dur : Int32} {need : Int64} {got : Int64} {len : Int32} {sg : Nat → Int32} {kept : Int32} {bits : Nat → Int64} {durs : Nat → Int64} {vs : Int32} {va : Nat → Int32} (R : RC c σ last chg state time pos su st pl stalls aband fin sw wasted qual as aa going track seg rung wait dur need got len sg kept bits durs vs va) {th st2 l1 l2 : Int32} (h2 : st2.toInt = if σ.state = 2 ∨ readyS c th.toInt σ then 2 else σ.state) :
    ∀ KK, ∃ last' chg' state' time' pos' su' st' pl' stalls' aband' fin' sw' wasted' qual' as' aa' going' track' seg' rung' wait' dur' need' got' len' sg' kept' bits' durs' vs' va', f_X6_advance_b80 an va8 vn vr KK last chg st2 time pos su st pl stalls aband fin sw wasted qual as aa going track seg rung wait dur need got len sg kept bits durs vs va l1 l2 = KK last' chg' state' time' pos' su' st' pl' stalls' aband' fin' sw' wasted' qual' as' aa' going' track' seg' rung' wait' dur' need' got' len' sg' kept' bits' durs' vs' va' l1 (l2 + 1) ∧ RC c (spendS (playsS c th.toInt σ)) last' chg' state' time' pos' su' st' pl' stalls' aband' fin' sw' wasted' qual' as' aa' going' track' seg' rung' wait' dur' need' got' len' sg' kept' bits' durs' vs' va' := by
  intro KK
  unfold f_X6_advance_b80
  by_cases h : σ.state = 2 ∨ readyS c th.toInt σ
  · rw [if_pos h] at h2
    rw [if_pos (by rw [eq32, h2]; rfl)]
    obtain ⟨s1, s2, s3, s4, e, R1⟩ := c_play W S V hT K R h2
    obtain ⟨s5, s6, s7, e2, R2⟩ := c_spend (play_wf W S hT) (by unfold playS; split <;> (try split) <;> exact ht) R1
    simp only [e, bnd4, e2, bnd3]
    have ep : playsS c th.toInt σ = playS c σ := by unfold playsS; rw [if_pos h]
    rw [ep]
    exact ⟨_, _, _, _, _, _, _, _, _, _, _, _, _, _, _, _, _, _, _, _, _, _, _, _, _, _, _, _, _, _, _, rfl, R2⟩
  · rw [if_neg h] at h2
    rw [if_neg (by rw [eq32, h2]; exact fun q => h (Or.inl q))]
    have es : st2 = state := by rw [eq32, h2, R.state]
    obtain ⟨s5, s6, s7, e2, R2⟩ := c_spend S ht R
    rw [es]
    simp only [e2, bnd3]
    have ep : playsS c th.toInt σ = σ := by unfold playsS; rw [if_neg h]
    rw [ep]
    exact ⟨_, _, _, _, _, _, _, _, _, _, _, _, _, _, _, _, _, _, _, _, _, _, _, _, _, _, _, _, _, _, _, rfl, R2⟩
theorem c_b68 {c : Cf} {σ : Ss} (W : WfC c) {T : Int} (S : WfS c T σ) (V : 1 ≤ c.vn) (hT : T + 1 ≤ 41000000) (ht : σ.time + 1 ≤ 10020000) {va8 : Nat → Int32} {vn : Int32} {vr : Nat → Int32} {an : Int32} {ar : Nat → Int32} {tot ph : Int32} {ln fl : Nat → Int32} (K : CC c va8 vn vr an ar tot ph ln fl) {last : Int32} {chg : Int32} {state : Int32} {time : Int32} {pos : Int32} {su : Int32} {st : Int32} {pl : Int32} {stalls : Int32} {aband : Int32} {fin : Int32} {sw : Int32} {wasted : Int64} {qual : Int64} {as : Int32} {aa : Nat → Int32} {going : Int32} {track : Int32} {seg : Int32} {rung : Int32} {wait : Int32} {dur : Int32} {need : Int64} {got : Int64} {len : Int32} {sg : Nat → Int32} {kept : Int32} {bits : Nat → Int64} {durs : Nat → Int64} {vs : Int32} {va : Nat → Int32} (R : RC c σ last chg state time pos su st pl stalls aband fin sw wasted qual as aa going track seg rung wait dur need got len sg kept bits durs vs va) {th l1 l2 : Int32} :
    ∀ KK, ∃ last' chg' state' time' pos' su' st' pl' stalls' aband' fin' sw' wasted' qual' as' aa' going' track' seg' rung' wait' dur' need' got' len' sg' kept' bits' durs' vs' va', f_X6_advance_b68 th an va8 vn vr KK last chg state time pos su st pl stalls aband fin sw wasted qual as aa going track seg rung wait dur need got len sg kept bits durs vs va l1 l2 = KK last' chg' state' time' pos' su' st' pl' stalls' aband' fin' sw' wasted' qual' as' aa' going' track' seg' rung' wait' dur' need' got' len' sg' kept' bits' durs' vs' va' l1 (l2 + 1) ∧ RC c (spendS (playsS c th.toInt σ)) last' chg' state' time' pos' su' st' pl' stalls' aband' fin' sw' wasted' qual' as' aa' going' track' seg' rung' wait' dur' need' got' len' sg' kept' bits' durs' vs' va' := by
  intro KK
  have er := c_ready W S V K (th := th) R.pos R.as R.vs R.state
  unfold f_X6_advance_b68
  rw [er]
  by_cases h : readyS c th.toInt σ
  · rw [if_pos h, if_neg one_z]
    exact c_b80 W S V hT ht K R (by rw [if_pos (Or.inr h)]; rfl) KK
  · rw [if_neg h, if_pos rfl]
    exact c_b80 W S V hT ht K R (by
      split
      · rename_i q; rcases q with q | q
        · rw [R.state]; exact q
        · exact absurd q h
      · exact R.state) KK
theorem c_b57 {c : Cf} {σ : Ss} (W : WfC c) {T : Int} (S : WfS c T σ) (V : 1 ≤ c.vn) (hT : T + 2 ≤ 41000000) (ht : σ.time + 1 ≤ 10020000) {va8 : Nat → Int32} {vn : Int32} {vr : Nat → Int32} {an : Int32} {ar : Nat → Int32} {tot ph : Int32} {ln fl : Nat → Int32} (K : CC c va8 vn vr an ar tot ph ln fl) {last : Int32} {chg : Int32} {state : Int32} {time : Int32} {pos : Int32} {su : Int32} {st : Int32} {pl : Int32} {stalls : Int32} {aband : Int32} {fin : Int32} {sw : Int32} {wasted : Int64} {qual : Int64} {as : Int32} {aa : Nat → Int32} {going : Int32} {track : Int32} {seg : Int32} {rung : Int32} {wait : Int32} {dur : Int32} {need : Int64} {got : Int64} {len : Int32} {sg : Nat → Int32} {kept : Int32} {bits : Nat → Int64} {durs : Nat → Int64} {vs : Int32} {va : Nat → Int32} (R : RC c σ last chg state time pos su st pl stalls aband fin sw wasted qual as aa going track seg rung wait dur need got len sg kept bits durs vs va) {th l1 l2 : Int32} :
    ∀ KK, ∃ last' chg' state' time' pos' su' st' pl' stalls' aband' fin' sw' wasted' qual' as' aa' going' track' seg' rung' wait' dur' need' got' len' sg' kept' bits' durs' vs' va', f_X6_advance_b57 th an va8 vn vr KK last chg state time pos su st pl stalls aband fin sw wasted qual as aa going track seg rung wait dur need got len sg kept bits durs vs va l1 l2 = KK last' chg' state' time' pos' su' st' pl' stalls' aband' fin' sw' wasted' qual' as' aa' going' track' seg' rung' wait' dur' need' got' len' sg' kept' bits' durs' vs' va' l1 (l2 + 1) ∧ RC c (spendS (playsS c th.toInt (givesS c σ))) last' chg' state' time' pos' su' st' pl' stalls' aband' fin' sw' wasted' qual' as' aa' going' track' seg' rung' wait' dur' need' got' len' sg' kept' bits' durs' vs' va' := by
  intro KK
  have S1 := gives_wf W S (by omega)
  have et : (givesS c σ).time + 1 ≤ 10020000 := by rw [gives_time]; exact ht
  unfold f_X6_advance_b57
  rcases c_gives W S V (by omega) K R with ⟨h, e⟩ | ⟨h, s1, s2, s3, s4, s5, s6, s7, s8, s9, s10, s11, s12, e, R1⟩
  · rw [if_pos h]
    rw [e] at S1 et ⊢
    exact c_b68 W S1 V (by omega) et K R KK
  · rw [h, if_neg one_z]
    simp only [e, bnd12]
    exact c_b68 W S1 V (by omega) et K R1 KK
theorem c_b43 {c : Cf} {σ : Ss} (W : WfC c) {T : Int} (S : WfS c T σ) (V : 1 ≤ c.vn) (hT : T + 3 ≤ 41000000) (ht : σ.time + 1 ≤ 10020000) {va8 : Nat → Int32} {vn : Int32} {vr : Nat → Int32} {an : Int32} {ar : Nat → Int32} {tot ph : Int32} {ln fl : Nat → Int32} (K : CC c va8 vn vr an ar tot ph ln fl) {last : Int32} {chg : Int32} {state : Int32} {time : Int32} {pos : Int32} {su : Int32} {st : Int32} {pl : Int32} {stalls : Int32} {aband : Int32} {fin : Int32} {sw : Int32} {wasted : Int64} {qual : Int64} {as : Int32} {aa : Nat → Int32} {going : Int32} {track : Int32} {seg : Int32} {rung : Int32} {wait : Int32} {dur : Int32} {need : Int64} {got : Int64} {len : Int32} {sg : Nat → Int32} {kept : Int32} {bits : Nat → Int64} {durs : Nat → Int64} {vs : Int32} {va : Nat → Int32} (R : RC c σ last chg state time pos su st pl stalls aband fin sw wasted qual as aa going track seg rung wait dur need got len sg kept bits durs vs va) {th l1 l2 : Int32} :
    ∀ KK, ∃ last' chg' state' time' pos' su' st' pl' stalls' aband' fin' sw' wasted' qual' as' aa' going' track' seg' rung' wait' dur' need' got' len' sg' kept' bits' durs' vs' va', f_X6_advance_b43 th an tot ph ln fl va8 vn vr KK last chg state time pos su st pl stalls aband fin sw wasted qual as aa going track seg rung wait dur need got len sg kept bits durs vs va l1 l2 = KK last' chg' state' time' pos' su' st' pl' stalls' aband' fin' sw' wasted' qual' as' aa' going' track' seg' rung' wait' dur' need' got' len' sg' kept' bits' durs' vs' va' l1 (l2 + 1) ∧ RC c (spendS (playsS c th.toInt (givesS c (rvS c σ)))) last' chg' state' time' pos' su' st' pl' stalls' aband' fin' sw' wasted' qual' as' aa' going' track' seg' rung' wait' dur' need' got' len' sg' kept' bits' durs' vs' va' := by
  intro KK
  have S1 := rv_wf W S V (by omega)
  have et : (rvS c σ).time + 1 ≤ 10020000 := by rw [rv_time]; exact ht
  have Rg := R.going
  unfold f_X6_advance_b43
  rcases S.g0 with G | G
  · have e : rvS c σ = σ := by unfold rvS; rw [if_neg (by omega)]
    rw [if_pos (by rw [eq32, Rg, G]; rfl)]
    rw [e] at S1 et ⊢
    exact c_b57 W S1 V (by omega) et K R KK
  · have e : rvS c σ = recvS c σ := by unfold rvS; rw [if_pos G]
    rw [if_neg (by rw [eq32, Rg, G]; decide)]
    rw [e] at S1 et ⊢
    obtain ⟨s1, s2, s3, s4, s5, s6, s7, s8, s9, s10, s11, s12, s13, e, R1⟩ := c_recv W S G (by omega) K R
    simp only [e, bnd13]
    exact c_b57 W S1 V (by omega) et K R1 KK
theorem c_b29 {c : Cf} {σ : Ss} (W : WfC c) {T : Int} (S : WfS c T σ) (V : 1 ≤ c.vn) (hT : T + 3 ≤ 41000000) (ht : σ.time + 1 ≤ 10020000) {va8 : Nat → Int32} {vn : Int32} {vr : Nat → Int32} {an : Int32} {ar : Nat → Int32} {tot ph : Int32} {ln fl : Nat → Int32} (K : CC c va8 vn vr an ar tot ph ln fl) {last : Int32} {chg : Int32} {state : Int32} {time : Int32} {pos : Int32} {su : Int32} {st : Int32} {pl : Int32} {stalls : Int32} {aband : Int32} {fin : Int32} {sw : Int32} {wasted : Int64} {qual : Int64} {as : Int32} {aa : Nat → Int32} {going : Int32} {track : Int32} {seg : Int32} {rung : Int32} {wait : Int32} {dur : Int32} {need : Int64} {got : Int64} {len : Int32} {sg : Nat → Int32} {kept : Int32} {bits : Nat → Int64} {durs : Nat → Int64} {vs : Int32} {va : Nat → Int32} (R : RC c σ last chg state time pos su st pl stalls aband fin sw wasted qual as aa going track seg rung wait dur need got len sg kept bits durs vs va) {mode th l1 l2 : Int32} :
    ∀ KK, ∃ last' chg' state' time' pos' su' st' pl' stalls' aband' fin' sw' wasted' qual' as' aa' going' track' seg' rung' wait' dur' need' got' len' sg' kept' bits' durs' vs' va', f_X6_advance_b29 mode th an ar tot ph ln fl va8 vn vr KK last chg state time pos su st pl stalls aband fin sw wasted qual as aa going track seg rung wait dur need got len sg kept bits durs vs va l1 l2 = KK last' chg' state' time' pos' su' st' pl' stalls' aband' fin' sw' wasted' qual' as' aa' going' track' seg' rung' wait' dur' need' got' len' sg' kept' bits' durs' vs' va' l1 (l2 + 1) ∧ RC c (spendS (playsS c th.toInt (givesS c (rvS c (dlS c mode.toInt σ))))) last' chg' state' time' pos' su' st' pl' stalls' aband' fin' sw' wasted' qual' as' aa' going' track' seg' rung' wait' dur' need' got' len' sg' kept' bits' durs' vs' va' := by
  intro KK
  have S1 := dl_wf W S V mode.toInt
  have et : (dlS c mode.toInt σ).time + 1 ≤ 10020000 := by rw [dl_time]; exact ht
  have Rg := R.going
  unfold f_X6_advance_b29
  rcases S.g0 with G | G
  · have e : dlS c mode.toInt σ = nextS c σ mode.toInt := by unfold dlS; rw [if_neg (by omega)]
    rw [if_pos (by rw [eq32, Rg, G]; rfl)]
    rw [e] at S1 et ⊢
    obtain ⟨s1, s2, s3, s4, s5, s6, s7, s8, s9, s10, e, R1⟩ := c_next W S V K R (mode := mode)
    simp only [e, obnd10]
    exact c_b43 W S1 V hT et K R1 KK
  · have e : dlS c mode.toInt σ = σ := by unfold dlS; rw [if_pos G]
    rw [if_neg (by rw [eq32, Rg, G]; decide)]
    rw [e] at S1 et ⊢
    exact c_b43 W S1 V hT et K R KK
def iterS (c : Cf) (mode th : Int) : Nat → Ss → Ss
  | 0, σ => σ
  | n + 1, σ => iterS c mode th n (tickS c mode th σ)
theorem iter_wf {c : Cf} (W : WfC c) (V : 1 ≤ c.vn) (mode th : Int) : ∀ (n : Nat) (σ : Ss) (T : Int), WfS c T σ → T + 4 * n ≤ 41000000 → σ.time + n ≤ 10020000 → WfS c (T + 4 * n) (iterS c mode th n σ) ∧ (iterS c mode th n σ).time = σ.time + n
  | 0, σ, T, S, hT, ht => by
    have e : T + 4 * ((0 : Nat) : Int) = T := by omega
    rw [e]; unfold iterS; exact ⟨S, by omega⟩
  | n + 1, σ, T, S, hT, ht => by
    have t := tick_wf W S V mode th (by omega) (by omega)
    have i := iter_wf W V mode th n (tickS c mode th σ) (T + 4) t.1 (by omega) (by rw [t.2]; omega)
    have e : T + 4 * ((n + 1 : Nat) : Int) = T + 4 + 4 * (n : Int) := by omega
    rw [e]; unfold iterS
    refine ⟨i.1, ?_⟩
    rw [i.2, t.2]; omega
theorem c_advL {c : Cf} (W : WfC c) (V : 1 ≤ c.vn) {va8 : Nat → Int32} {vn : Int32} {vr : Nat → Int32} {an : Int32} {ar : Nat → Int32} {tot ph : Int32} {ln fl : Nat → Int32} (K : CC c va8 vn vr an ar tot ph ln fl) {mode th l1 : Int32} : ∀ (n g : Nat) (σ : Ss) (T : Int), WfS c T σ → T + 4 * n ≤ 41000000 → σ.time + n ≤ 10020000 → ∀ (last : Int32) (chg : Int32) (state : Int32) (time : Int32) (pos : Int32) (su : Int32) (st : Int32) (pl : Int32) (stalls : Int32) (aband : Int32) (fin : Int32) (sw : Int32) (wasted : Int64) (qual : Int64) (as : Int32) (aa : Nat → Int32) (going : Int32) (track : Int32) (seg : Int32) (rung : Int32) (wait : Int32) (dur : Int32) (need : Int64) (got : Int64) (len : Int32) (sg : Nat → Int32) (kept : Int32) (bits : Nat → Int64) (durs : Nat → Int64) (vs : Int32) (va : Nat → Int32) (_ : RC c σ last chg state time pos su st pl stalls aband fin sw wasted qual as aa going track seg rung wait dur need got len sg kept bits durs vs va) (l2 : Int32), l2.toInt + n = l1.toInt → n < g →
    ∃ last' chg' state' time' pos' su' st' pl' stalls' aband' fin' sw' wasted' qual' as' aa' going' track' seg' rung' wait' dur' need' got' len' sg' kept' bits' durs' vs' va', f_X6_advance_b2 mode th an ar tot ph ln fl va8 vn vr g last chg state time pos su st pl stalls aband fin sw wasted qual as aa going track seg rung wait dur need got len sg kept bits durs vs va l1 l2 = some (last', chg', state', time', pos', su', st', pl', stalls', aband', fin', sw', wasted', qual', as', aa', going', track', seg', rung', wait', dur', need', got', len', sg', kept', bits', durs', vs', va') ∧ RC c (iterS c mode.toInt th.toInt n σ) last' chg' state' time' pos' su' st' pl' stalls' aband' fin' sw' wasted' qual' as' aa' going' track' seg' rung' wait' dur' need' got' len' sg' kept' bits' durs' vs' va' := by
  intro n
  induction n with
  | zero =>
    intro g σ T S hT ht last chg state time pos su st pl stalls aband fin sw wasted qual as aa going track seg rung wait dur need got len sg kept bits durs vs va R l2 hl hg
    obtain ⟨g, rfl⟩ : ∃ g', g = g' + 1 := ⟨g - 1, by omega⟩
    unfold f_X6_advance_b2 iterS
    rw [if_pos (by rw [le32]; omega)]
    exact ⟨_, _, _, _, _, _, _, _, _, _, _, _, _, _, _, _, _, _, _, _, _, _, _, _, _, _, _, _, _, _, _, rfl, R⟩
  | succ n ih =>
    intro g σ T S hT ht last chg state time pos su st pl stalls aband fin sw wasted qual as aa going track seg rung wait dur need got len sg kept bits durs vs va R l2 hl hg
    obtain ⟨g, rfl⟩ : ∃ g', g = g' + 1 := ⟨g - 1, by omega⟩
    have lb := Int32.toInt_lt l1
    have lc := Int32.le_toInt l2
    have el : (l2 + 1).toInt = l2.toInt + 1 := by rw [add32 (by simp only [Int32.reduceToInt]; omega) (by simp only [Int32.reduceToInt]; omega)]; rfl
    have t := tick_wf W S V mode.toInt th.toInt (by omega) (by omega)
    have S1 := tells_wf W S V
    have et : (tellsS c σ).time + 1 ≤ 10020000 := by rw [tells_time.1]; omega
    unfold f_X6_advance_b2 iterS
    rw [if_neg (by rw [le32]; omega)]
    rcases c_tells W S V K R with ⟨h, e⟩ | ⟨h, s1, s2, e, R1⟩
    · rw [if_neg h]
      have S1' := S1
      rw [e] at S1' et
      obtain ⟨b0, b1, b2, b3, b4, b5, b6, b7, b8, b9, b10, b11, b12, b13, b14, b15, b16, b17, b18, b19, b20, b21, b22, b23, b24, b25, b26, b27, b28, b29, b30, hb, R2⟩ := c_b29 W S1' V (by omega) et K R (mode := mode) (th := th) (l1 := l1) (l2 := l2) (f_X6_advance_b2 mode th an ar tot ph ln fl va8 vn vr g)
      rw [hb]
      have R3 : RC c (tickS c mode.toInt th.toInt σ) b0 b1 b2 b3 b4 b5 b6 b7 b8 b9 b10 b11 b12 b13 b14 b15 b16 b17 b18 b19 b20 b21 b22 b23 b24 b25 b26 b27 b28 b29 b30 := by unfold tickS; rw [e]; exact R2
      exact ih g _ (T + 4) t.1 (by omega) (by rw [t.2]; omega) _ _ _ _ _ _ _ _ _ _ _ _ _ _ _ _ _ _ _ _ _ _ _ _ _ _ _ _ _ _ _ R3 (l2 + 1) (by omega) (by omega)
    · rw [if_pos h]
      simp only [e, bnd2]
      obtain ⟨b0, b1, b2, b3, b4, b5, b6, b7, b8, b9, b10, b11, b12, b13, b14, b15, b16, b17, b18, b19, b20, b21, b22, b23, b24, b25, b26, b27, b28, b29, b30, hb, R2⟩ := c_b29 W S1 V (by omega) et K R1 (mode := mode) (th := th) (l1 := l1) (l2 := l2) (f_X6_advance_b2 mode th an ar tot ph ln fl va8 vn vr g)
      rw [hb]
      exact ih g _ (T + 4) t.1 (by omega) (by rw [t.2]; omega) _ _ _ _ _ _ _ _ _ _ _ _ _ _ _ _ _ _ _ _ _ _ _ _ _ _ _ _ _ _ _ R2 (l2 + 1) (by omega) (by omega)
theorem c_adv {c : Cf} {σ : Ss} (W : WfC c) {T : Int} (S : WfS c T σ) (V : 1 ≤ c.vn) {va8 : Nat → Int32} {vn : Int32} {vr : Nat → Int32} {an : Int32} {ar : Nat → Int32} {tot ph : Int32} {ln fl : Nat → Int32} (K : CC c va8 vn vr an ar tot ph ln fl) {mode th ms : Int32} {n : Nat} (hn : ms.toInt = n) (hT : T + 4 * n ≤ 41000000) (ht : σ.time + n ≤ 10020000) {last : Int32} {chg : Int32} {state : Int32} {time : Int32} {pos : Int32} {su : Int32} {st : Int32} {pl : Int32} {stalls : Int32} {aband : Int32} {fin : Int32} {sw : Int32} {wasted : Int64} {qual : Int64} {as : Int32} {aa : Nat → Int32} {going : Int32} {track : Int32} {seg : Int32} {rung : Int32} {wait : Int32} {dur : Int32} {need : Int64} {got : Int64} {len : Int32} {sg : Nat → Int32} {kept : Int32} {bits : Nat → Int64} {durs : Nat → Int64} {vs : Int32} {va : Nat → Int32} (R : RC c σ last chg state time pos su st pl stalls aband fin sw wasted qual as aa going track seg rung wait dur need got len sg kept bits durs vs va) :
    ∃ last' chg' state' time' pos' su' st' pl' stalls' aband' fin' sw' wasted' qual' as' aa' going' track' seg' rung' wait' dur' need' got' len' sg' kept' bits' durs' vs' va', f_X6_advance mode th last chg state time pos su st pl stalls aband fin sw wasted qual as aa going track seg rung wait dur need got len sg kept bits durs an ar tot ph ln fl va8 vn vr vs va ms = some (last', chg', state', time', pos', su', st', pl', stalls', aband', fin', sw', wasted', qual', as', aa', going', track', seg', rung', wait', dur', need', got', len', sg', kept', bits', durs', vs', va') ∧ RC c (iterS c mode.toInt th.toInt n σ) last' chg' state' time' pos' su' st' pl' stalls' aband' fin' sw' wasted' qual' as' aa' going' track' seg' rung' wait' dur' need' got' len' sg' kept' bits' durs' vs' va' := by
  unfold f_X6_advance
  exact c_advL W V K n _ σ T S hT ht _ _ _ _ _ _ _ _ _ _ _ _ _ _ _ _ _ _ _ _ _ _ _ _ _ _ _ _ _ _ _ R 0 (by simp only [Int32.reduceToInt]; omega) (by simp only [Int32.reduceToInt]; omega)
