theorem nar_ch {x : Int32} : vp_nar .char x = ch32 x := rfl
theorem ch_id {x : Int32} (h0 : 0 ≤ x.toInt) (h1 : x.toInt < 65536) : (ch32 x) = x := by
  rw [eq32]
  unfold ch32
  have e : x.toUInt32.toNat = x.toInt.toNat := by
    rw [← Int32.toNatClampNeg]
    exact (Int32.toNat_toUInt32_of_le (by rw [Int32.le_iff_toInt_le]; exact h0))
  have e2 : (x.toUInt32 % 65536) = x.toUInt32 := by
    apply UInt32.toNat_inj.mp
    rw [UInt32.toNat_mod, e]
    have : (65536 : UInt32).toNat = 65536 := rfl
    rw [this, Nat.mod_eq_of_lt (by omega)]
  rw [e2]; simp
/-! playing -/
def smallS (c : Cf) (σ : Ss) : Int := if c.an ≤ 0 then bufV c σ else min (bufV c σ) (bufA c σ)
abbrev allS (c : Cf) (σ : Ss) : Prop := c.v 1 ≤ σ.vs ∧ (c.an ≤ 0 ∨ c.v 1 ≤ σ.as)
abbrev readyS (c : Cf) (th : Int) (σ : Ss) : Prop := (σ.state = 1 ∧ (th ≤ smallS c σ ∨ allS c σ)) ∨ (σ.state = 3 ∧ (c.v 4 ≤ smallS c σ ∨ allS c σ))
abbrev lateS (c : Cf) (σ : Ss) : Prop := σ.time % 10 = 0 ∧ 0 < c.v 13 ∧ c.v 14 < σ.time + c.v 13 - σ.pos ∧ c.v 5 ≤ smallS c σ
def rungNow (c : Cf) (σ : Ss) : Int := σ.va (σ.pos / c.v 0).toNat
abbrev overS (c : Cf) (σ : Ss) : Prop := σ.pos = c.v 1 * c.v 0
def goS (c : Cf) (σ : Ss) : Ss := (Ss.mk (σ.time) (σ.pos + if 2 ≤ smallS c σ ∧ lateS c σ then 2 else 1) (2) (σ.vs) (σ.as) (σ.going) (σ.track) (σ.seg) (σ.rung) (σ.wait) (σ.dur) (σ.got) (σ.need) (σ.last) (σ.chg) (σ.su) (σ.st) (σ.pl) (σ.stalls) (σ.aband) (σ.fin) (σ.sw) (σ.len) (σ.kept) (σ.wasted) (σ.qual + Int64.ofInt (c.vr (rungNow c σ).toNat)) (σ.va) (σ.aa) (σ.sg) (σ.bits) (σ.durs))
def playS (c : Cf) (σ : Ss) : Ss := if smallS c σ = 0 then (if overS c σ then (Ss.mk (σ.time) (σ.pos) (4) (σ.vs) (σ.as) (σ.going) (σ.track) (σ.seg) (σ.rung) (σ.wait) (σ.dur) (σ.got) (σ.need) (σ.last) (σ.chg) (σ.su) (σ.st) (σ.pl) (σ.stalls) (σ.aband) (σ.fin) (σ.sw) (σ.len) (σ.kept) (σ.wasted) (σ.qual) (σ.va) (σ.aa) (σ.sg) (σ.bits) (σ.durs)) else (Ss.mk (σ.time) (σ.pos) (3) (σ.vs) (σ.as) (σ.going) (σ.track) (σ.seg) (σ.rung) (σ.wait) (σ.dur) (σ.got) (σ.need) (σ.last) (σ.chg) (σ.su) (σ.st) (σ.pl) (σ.stalls + 1) (σ.aband) (σ.fin) (σ.sw) (σ.len) (σ.kept) (σ.wasted) (σ.qual) (σ.va) (σ.aa) (σ.sg) (σ.bits) (σ.durs))) else goS c σ
def playsS (c : Cf) (th : Int) (σ : Ss) : Ss := if σ.state = 2 ∨ readyS c th σ then playS c σ else σ
theorem small_b {c : Cf} {σ : Ss} (W : WfC c) {T : Int} (S : WfS c T σ) : 0 ≤ smallS c σ ∧ smallS c σ ≤ 2000000 ∧ smallS c σ ≤ bufV c σ ∧ (0 < c.an → smallS c σ ≤ bufA c σ) := by
  have b := buf_b W S
  have b2 := b.2
  have b1 := b.1
  unfold smallS
  split
  · refine ⟨by omega, by omega, by omega, fun h => by omega⟩
  · have := b2 (by omega)
    refine ⟨by omega, by omega, by omega, fun h => by omega⟩
theorem seg_now {c : Cf} {σ : Ss} (W : WfC c) {T : Int} (S : WfS c T σ) {q : Int} (h0 : 0 ≤ q) (h1 : q < σ.vs * c.v 0) : 0 ≤ q / c.v 0 ∧ q / c.v 0 < σ.vs := by
  have d := W.d0
  exact ⟨Int.ediv_nonneg h0 (by omega), Int.ediv_lt_of_lt_mul (by omega) h1⟩
theorem play_wf {c : Cf} {σ : Ss} (W : WfC c) {T : Int} (S : WfS c T σ) (hT : T + 1 ≤ 41000000) : WfS c (T + 1) (playS c σ) := by
  have S' := mono_wf S hT
  have sb := small_b W S
  have p0 := S.p0
  have stalls0 := S.stalls0
  have stalls1 := S.stalls1
  unfold playS
  split
  · split
    · exact (WfS.mk (h_T0 := S'.T0) (h_T1 := S'.T1) (h_t0 := S'.t0) (h_t1 := S'.t1) (h_s0 := by show (1 : Int) ≤ 4; decide) (h_s1 := by show (4 : Int) ≤ 4; decide) (h_v0 := S'.v0) (h_v1 := S'.v1) (h_a0 := S'.a0) (h_a1 := S'.a1) (h_p0 := S'.p0) (h_pv := S'.pv) (h_pa := S'.pa) (h_p2 := fun h => absurd h (by show ¬ (4 : Int) = 2; decide)) (h_l0 := S'.l0) (h_l1 := S'.l1) (h_c0 := S'.c0) (h_c1 := S'.c1) (h_n0 := S'.n0) (h_n1 := S'.n1) (h_k0 := S'.k0) (h_k1 := S'.k1) (h_g0 := S'.g0) (h_tr := S'.tr) (h_sq := S'.sq) (h_sl := S'.sl) (h_r0 := S'.r0) (h_r1 := S'.r1) (h_w0 := S'.w0) (h_w1 := S'.w1) (h_d0 := S'.d0) (h_d1 := S'.d1) (h_e0 := S'.e0) (h_e1 := S'.e1) (h_q0 := S'.q0) (h_q1 := S'.q1) (h_su0 := S'.su0) (h_su1 := S'.su1) (h_st0 := S'.st0) (h_st1 := S'.st1) (h_pl0 := S'.pl0) (h_pl1 := S'.pl1) (h_stalls0 := S'.stalls0) (h_stalls1 := S'.stalls1) (h_aband0 := S'.aband0) (h_aband1 := S'.aband1) (h_fin0 := S'.fin0) (h_fin1 := S'.fin1) (h_sw0 := S'.sw0) (h_sw1 := S'.sw1) (h_va := S'.va) (h_aa := S'.aa) (h_sg := S'.sg) (h_sm := S'.sm))
    · exact (WfS.mk (h_T0 := S'.T0) (h_T1 := S'.T1) (h_t0 := S'.t0) (h_t1 := S'.t1) (h_s0 := by show (1 : Int) ≤ 3; decide) (h_s1 := by show (3 : Int) ≤ 4; decide) (h_v0 := S'.v0) (h_v1 := S'.v1) (h_a0 := S'.a0) (h_a1 := S'.a1) (h_p0 := S'.p0) (h_pv := S'.pv) (h_pa := S'.pa) (h_p2 := fun h => absurd h (by show ¬ (3 : Int) = 2; decide)) (h_l0 := S'.l0) (h_l1 := S'.l1) (h_c0 := S'.c0) (h_c1 := S'.c1) (h_n0 := S'.n0) (h_n1 := S'.n1) (h_k0 := S'.k0) (h_k1 := S'.k1) (h_g0 := S'.g0) (h_tr := S'.tr) (h_sq := S'.sq) (h_sl := S'.sl) (h_r0 := S'.r0) (h_r1 := S'.r1) (h_w0 := S'.w0) (h_w1 := S'.w1) (h_d0 := S'.d0) (h_d1 := S'.d1) (h_e0 := S'.e0) (h_e1 := S'.e1) (h_q0 := S'.q0) (h_q1 := S'.q1) (h_su0 := S'.su0) (h_su1 := S'.su1) (h_st0 := S'.st0) (h_st1 := S'.st1) (h_pl0 := S'.pl0) (h_pl1 := S'.pl1) (h_stalls0 := by show 0 ≤ σ.stalls + 1; omega) (h_stalls1 := by show σ.stalls + 1 ≤ T + 1; omega) (h_aband0 := S'.aband0) (h_aband1 := S'.aband1) (h_fin0 := S'.fin0) (h_fin1 := S'.fin1) (h_sw0 := S'.sw0) (h_sw1 := S'.sw1) (h_va := S'.va) (h_aa := S'.aa) (h_sg := S'.sg) (h_sm := S'.sm))
  · rename_i hz
    have e : ∀ x : Int, x = (if 2 ≤ smallS c σ ∧ lateS c σ then 2 else 1) → 1 ≤ x ∧ x ≤ smallS c σ := by
      intro x hx
      split at hx
      · rename_i h; have := h.1; omega
      · omega
    have e' := e _ rfl
    have bv := sb.2.2.1
    have ba := sb.2.2.2
    unfold bufV at bv
    unfold bufA at ba
    exact (WfS.mk (h_T0 := S'.T0) (h_T1 := S'.T1) (h_t0 := S'.t0) (h_t1 := S'.t1) (h_s0 := by show (1 : Int) ≤ 2; decide) (h_s1 := by show (2 : Int) ≤ 4; decide) (h_v0 := S'.v0) (h_v1 := S'.v1) (h_a0 := S'.a0) (h_a1 := S'.a1) (h_p0 := by show 0 ≤ σ.pos + (if 2 ≤ smallS c σ ∧ lateS c σ then 2 else 1); omega) (h_pv := by show σ.pos + (if 2 ≤ smallS c σ ∧ lateS c σ then 2 else 1) ≤ σ.vs * c.v 0; omega) (h_pa := fun h => by show σ.pos + (if 2 ≤ smallS c σ ∧ lateS c σ then 2 else 1) ≤ σ.as * c.v 0; have := ba h; omega) (h_p2 := fun _ => by show 1 ≤ σ.pos + (if 2 ≤ smallS c σ ∧ lateS c σ then 2 else 1); omega) (h_l0 := S'.l0) (h_l1 := S'.l1) (h_c0 := S'.c0) (h_c1 := S'.c1) (h_n0 := S'.n0) (h_n1 := S'.n1) (h_k0 := S'.k0) (h_k1 := S'.k1) (h_g0 := S'.g0) (h_tr := S'.tr) (h_sq := S'.sq) (h_sl := S'.sl) (h_r0 := S'.r0) (h_r1 := S'.r1) (h_w0 := S'.w0) (h_w1 := S'.w1) (h_d0 := S'.d0) (h_d1 := S'.d1) (h_e0 := S'.e0) (h_e1 := S'.e1) (h_q0 := S'.q0) (h_q1 := S'.q1) (h_su0 := S'.su0) (h_su1 := S'.su1) (h_st0 := S'.st0) (h_st1 := S'.st1) (h_pl0 := S'.pl0) (h_pl1 := S'.pl1) (h_stalls0 := S'.stalls0) (h_stalls1 := S'.stalls1) (h_aband0 := S'.aband0) (h_aband1 := S'.aband1) (h_fin0 := S'.fin0) (h_fin1 := S'.fin1) (h_sw0 := S'.sw0) (h_sw1 := S'.sw1) (h_va := S'.va) (h_aa := S'.aa) (h_sg := S'.sg) (h_sm := S'.sm))
theorem plays_wf {c : Cf} {σ : Ss} (W : WfC c) {T : Int} (S : WfS c T σ) (hT : T + 1 ≤ 41000000) (th : Int) : WfS c (T + 1) (playsS c th σ) := by
  unfold playsS
  split
  · exact play_wf W S hT
  · exact mono_wf S hT
theorem c_small {c : Cf} {σ : Ss} (W : WfC c) {T : Int} (S : WfS c T σ) (V : 1 ≤ c.vn) {va8 : Nat → Int32} {vn : Int32} {vr : Nat → Int32} {an : Int32} {ar : Nat → Int32} {tot ph : Int32} {ln fl : Nat → Int32} (K : CC c va8 vn vr an ar tot ph ln fl) {pos as vs : Int32} (h1 : pos.toInt = σ.pos) (h2 : as.toInt = σ.as) (h3 : vs.toInt = σ.vs) : (f_X6_smallestBuffer pos as an va8 vn vs).toInt = smallS c σ := by
  have e0 := c_buf0 W S V (va := va8) (K.v 0 (by decide)) h1 K.vn h3
  have han := K.an
  unfold f_X6_smallestBuffer f_X8_hasAudio smallS
  simp only [bnd]
  by_cases h : c.an ≤ 0
  · simp only [if_pos (show an ≤ 0 by rw [le32, han]; exact h), if_true, if_pos h]; exact e0
  · have e1 := c_buf1 W S (by omega) (va := va8) (K.v 0 (by decide)) h1 K.an h2
    simp only [if_neg (show ¬ an ≤ 0 by rw [le32, han]; exact h), if_neg one_z, if_neg h]
    rw [min32, e0, e1]
theorem c_all {c : Cf} {σ : Ss} {va8 : Nat → Int32} {vn : Int32} {vr : Nat → Int32} {an : Int32} {ar : Nat → Int32} {tot ph : Int32} {ln fl : Nat → Int32} (K : CC c va8 vn vr an ar tot ph ln fl) {as vs : Int32} (h2 : as.toInt = σ.as) (h3 : vs.toInt = σ.vs) : f_X6_isAllDownloaded as an va8 vs = if allS c σ then 1 else 0 := by
  have v1 : f_X8_valueOf va8 1 = va8 1 := vo (by decide) (by decide)
  have k1 := K.v 1 (by decide)
  have han := K.an
  unfold f_X6_isAllDownloaded f_X8_hasAudio
  rw [v1]
  by_cases q : c.v 1 ≤ σ.vs
  · rw [if_neg (by rw [lt32]; omega)]
    by_cases h : c.an ≤ 0
    · simp only [if_pos (show an ≤ 0 by rw [le32, han]; exact h), if_true]; rw [if_pos (show allS c σ from ⟨q, Or.inl h⟩)]
    · simp only [if_neg (show ¬ an ≤ 0 by rw [le32, han]; exact h), if_neg one_z]
      by_cases q2 : c.v 1 ≤ σ.as
      · rw [if_neg (by rw [lt32]; omega), if_pos (show allS c σ from ⟨q, Or.inr q2⟩)]
      · rw [if_pos (by rw [lt32]; omega), if_neg (fun o : allS c σ => o.2.elim h q2)]
  · rw [if_pos (by rw [lt32]; omega), if_neg (fun o : allS c σ => q o.1)]
theorem c_ready {c : Cf} {σ : Ss} (W : WfC c) {T : Int} (S : WfS c T σ) (V : 1 ≤ c.vn) {va8 : Nat → Int32} {vn : Int32} {vr : Nat → Int32} {an : Int32} {ar : Nat → Int32} {tot ph : Int32} {ln fl : Nat → Int32} (K : CC c va8 vn vr an ar tot ph ln fl) {th state pos as vs : Int32} (h1 : pos.toInt = σ.pos) (h2 : as.toInt = σ.as) (h3 : vs.toInt = σ.vs) (h4 : state.toInt = σ.state) : f_X6_isReadyToPlay th state pos as an va8 vn vs = if readyS c th.toInt σ then 1 else 0 := by
  have v4 : f_X8_valueOf va8 4 = va8 4 := vo (by decide) (by decide)
  have k4 := K.v 4 (by decide)
  have es := c_small W S V K h1 h2 h3
  have ea := c_all K h2 h3
  unfold f_X6_isReadyToPlay
  rw [v4, ea]
  by_cases s1 : σ.state = 1
  · rw [if_pos (by rw [eq32, h4, s1]; rfl)]
    by_cases q : th.toInt ≤ smallS c σ
    · rw [if_pos (by rw [le32]; omega), if_pos (show readyS c th.toInt σ from Or.inl ⟨s1, Or.inl q⟩)]
    · rw [if_neg (by rw [le32]; omega)]
      by_cases a : allS c σ
      · rw [if_pos a, if_neg one_z, if_pos (show readyS c th.toInt σ from Or.inl ⟨s1, Or.inr a⟩)]
      · rw [if_neg a, if_pos rfl, if_neg (fun o : readyS c th.toInt σ => o.elim (fun w => w.2.elim q a) (fun w => by have := w.1; omega))]
  · rw [if_neg (by rw [eq32, h4]; exact s1)]
    by_cases s3 : σ.state = 3
    · rw [if_pos (by rw [eq32, h4, s3]; rfl)]
      by_cases q : c.v 4 ≤ smallS c σ
      · rw [if_pos (by rw [le32]; omega), if_pos (show readyS c th.toInt σ from Or.inr ⟨s3, Or.inl q⟩)]
      · rw [if_neg (by rw [le32]; omega)]
        by_cases a : allS c σ
        · rw [if_pos a, if_neg one_z, if_pos (show readyS c th.toInt σ from Or.inr ⟨s3, Or.inr a⟩)]
        · rw [if_neg a, if_pos rfl, if_neg (fun o : readyS c th.toInt σ => o.elim (fun w => s1 w.1) (fun w => w.2.elim q a))]
    · rw [if_neg (by rw [eq32, h4]; exact s3), if_neg (fun o : readyS c th.toInt σ => o.elim (fun w => s1 w.1) (fun w => s3 w.1))]
theorem c_play {c : Cf} {σ : Ss} (W : WfC c) {T : Int} (S : WfS c T σ) (V : 1 ≤ c.vn) (hT : T + 1 ≤ 41000000) {va8 : Nat → Int32} {vn : Int32} {vr : Nat → Int32} {an : Int32} {ar : Nat → Int32} {tot ph : Int32} {ln fl : Nat → Int32} (K : CC c va8 vn vr an ar tot ph ln fl) {last : Int32} {chg : Int32} {state : Int32} {time : Int32} {pos : Int32} {su : Int32} {st : Int32} {pl : Int32} {stalls : Int32} {aband : Int32} {fin : Int32} {sw : Int32} {wasted : Int64} {qual : Int64} {as : Int32} {aa : Nat → Int32} {going : Int32} {track : Int32} {seg : Int32} {rung : Int32} {wait : Int32} {dur : Int32} {need : Int64} {got : Int64} {len : Int32} {sg : Nat → Int32} {kept : Int32} {bits : Nat → Int64} {durs : Nat → Int64} {vs : Int32} {va : Nat → Int32} (R : RC c σ last chg state time pos su st pl stalls aband fin sw wasted qual as aa going track seg rung wait dur need got len sg kept bits durs vs va) {st2 : Int32} (h2 : st2.toInt = 2) :
    ∃ state' pos' stalls' qual', f_X6_play st2 time pos stalls qual as an va8 vn vr vs va = (state', pos', stalls', qual') ∧ RC c (playS c σ) last chg state' time pos' su st pl stalls' aband fin sw wasted qual' as aa going track seg rung wait dur need got len sg kept bits durs vs va := by
  have v0 : f_X8_valueOf va8 0 = va8 0 := vo (by decide) (by decide)
  have v1 : f_X8_valueOf va8 1 = va8 1 := vo (by decide) (by decide)
  have v5 : f_X8_valueOf va8 5 = va8 5 := vo (by decide) (by decide)
  have v13 : f_X8_valueOf va8 13 = va8 13 := vo (by decide) (by decide)
  have v14 : f_X8_valueOf va8 14 = va8 14 := vo (by decide) (by decide)
  have k0 := K.v 0 (by decide)
  have k1 := K.v 1 (by decide)
  have k5 := K.v 5 (by decide)
  have k13 := K.v 13 (by decide)
  have k14 := K.v 14 (by decide)
  have es := c_small W S V K R.pos R.as R.vs
  have sb := small_b W S
  have d0 := W.d0
  have d1 := W.d1
  have m0 := W.m0
  have m1 := W.m1
  have a13 := W.a13
  have b13 := W.b13
  have p0 := S.p0
  have pv := S.pv
  have vD := WfS.vD W S
  have t0 := S.t0
  have t1 := S.t1
  have T1 := S.T1
  have x0 := S.stalls0
  have x1 := S.stalls1
  have Rp := R.pos
  have Rt := R.time
  unfold f_X6_play playS
  simp only [bnd]
  by_cases z : smallS c σ = 0
  · rw [if_pos (by rw [eq32, es]; exact z), if_pos z]
    have mm := mulb (a := c.v 1) (b := c.v 0) (A := 200) (B := 10000) (by omega) m1 (by omega) d1
    have em : (va8 1 * va8 0).toInt = c.v 1 * c.v 0 := by rw [mul32 (by rw [k1, k0]; omega) (by rw [k1, k0]; omega), k1, k0]
    unfold f_X6_leavePlaying
    rw [v0, v1]
    by_cases o : overS c σ
    · rw [if_pos (by rw [eq32, em, Rp]; exact o), if_pos o]
      exact ⟨_, _, _, _, rfl, (RC.mk (h_last := R.last) (h_chg := R.chg) (h_state := rfl) (h_time := R.time) (h_pos := R.pos) (h_su := R.su) (h_st := R.st) (h_pl := R.pl) (h_stalls := R.stalls) (h_aband := R.aband) (h_fin := R.fin) (h_sw := R.sw) (h_wasted := R.wasted) (h_qual := R.qual) (h_as := R.as) (h_aa := R.aa) (h_going := R.going) (h_track := R.track) (h_seg := R.seg) (h_rung := R.rung) (h_wait := R.wait) (h_dur := R.dur) (h_need := R.need) (h_got := R.got) (h_len := R.len) (h_sg := R.sg) (h_ft := R.ft) (h_kept := R.kept) (h_bits := R.bits) (h_durs := R.durs) (h_vs := R.vs) (h_va := R.va))⟩
    · rw [if_neg (by rw [eq32, em, Rp]; exact o), if_neg o]
      refine ⟨_, _, _, _, rfl, (RC.mk (h_last := R.last) (h_chg := R.chg) (h_state := rfl) (h_time := R.time) (h_pos := R.pos) (h_su := R.su) (h_st := R.st) (h_pl := R.pl) (h_stalls := ?_) (h_aband := R.aband) (h_fin := R.fin) (h_sw := R.sw) (h_wasted := R.wasted) (h_qual := R.qual) (h_as := R.as) (h_aa := R.aa) (h_going := R.going) (h_track := R.track) (h_seg := R.seg) (h_rung := R.rung) (h_wait := R.wait) (h_dur := R.dur) (h_need := R.need) (h_got := R.got) (h_len := R.len) (h_sg := R.sg) (h_ft := R.ft) (h_kept := R.kept) (h_bits := R.bits) (h_durs := R.durs) (h_vs := R.vs) (h_va := R.va))⟩
      show (stalls + 1).toInt = σ.stalls + 1
      rw [add32 (by rw [R.stalls]; simp only [Int32.reduceToInt]; omega) (by rw [R.stalls]; simp only [Int32.reduceToInt]; omega), R.stalls]; rfl
  · rw [if_neg (by rw [eq32, es]; exact z), if_neg z]
    have bv := sb.2.2.1
    unfold bufV at bv
    have sn := seg_now W S p0 (by omega : σ.pos < σ.vs * c.v 0)
    have vs1 := S.v1
    have eseg : (f_X8_segmentAt va8 pos).toInt = σ.pos / c.v 0 := by
      unfold f_X8_segmentAt
      rw [v0, if_neg (by rw [le32, k0]; simp only [Int32.reduceToInt]; omega), div32 (by omega) (by omega), Rp, k0]
    have erung : f_X7_rungAt vs va (f_X8_segmentAt va8 pos) = va (σ.pos / c.v 0).toNat := by rw [c_at7 R.vs (by omega) (by omega) (by omega), eseg]
    have erv : (va (σ.pos / c.v 0).toNat).toInt = rungNow c σ := R.va _ (by omega)
    have rb := S.va (σ.pos / c.v 0).toNat (by omega)
    have vn1 := W.vn1
    have erb : 0 ≤ rungNow c σ ∧ rungNow c σ < c.vn := rb
    have eq : qual + (f_X2_rateOf vr (va (σ.pos / c.v 0).toNat)).toInt64 = σ.qual + Int64.ofInt (c.vr (rungNow c σ).toNat) := by
      have e1 : f_X2_rateOf vr (va (σ.pos / c.v 0).toNat) = vr (rungNow c σ).toNat := by rw [ro (by omega) (by omega), erv]
      have e2 : (vr (rungNow c σ).toNat).toInt = c.vr (rungNow c σ).toNat := K.vr _ (by omega)
      rw [e1, R.qual, ← e2, ← tl, Int64.ofInt_toInt]
    have q1 : (pos + 1).toInt = σ.pos + 1 := by rw [add32 (by rw [Rp]; simp only [Int32.reduceToInt]; omega) (by rw [Rp]; simp only [Int32.reduceToInt]; omega), Rp]; rfl
    have q2 : (pos + 2).toInt = σ.pos + 2 := by rw [add32 (by rw [Rp]; simp only [Int32.reduceToInt]; omega) (by rw [Rp]; simp only [Int32.reduceToInt]; omega), Rp]; rfl
    rw [erung, eq]
    have fin : ∀ pos' : Int32, pos'.toInt = σ.pos + (if 2 ≤ smallS c σ ∧ lateS c σ then 2 else 1) → RC c (goS c σ) last chg st2 time pos' su st pl stalls aband fin sw wasted (σ.qual + Int64.ofInt (c.vr (rungNow c σ).toNat)) as aa going track seg rung wait dur need got len sg kept bits durs vs va := fun pos' h => (RC.mk (h_last := R.last) (h_chg := R.chg) (h_state := h2) (h_time := R.time) (h_pos := h) (h_su := R.su) (h_st := R.st) (h_pl := R.pl) (h_stalls := R.stalls) (h_aband := R.aband) (h_fin := R.fin) (h_sw := R.sw) (h_wasted := R.wasted) (h_qual := rfl) (h_as := R.as) (h_aa := R.aa) (h_going := R.going) (h_track := R.track) (h_seg := R.seg) (h_rung := R.rung) (h_wait := R.wait) (h_dur := R.dur) (h_need := R.need) (h_got := R.got) (h_len := R.len) (h_sg := R.sg) (h_ft := R.ft) (h_kept := R.kept) (h_bits := R.bits) (h_durs := R.durs) (h_vs := R.vs) (h_va := R.va))
    by_cases w : 2 ≤ smallS c σ
    · rw [if_neg (by rw [lt32, es]; simp only [Int32.reduceToInt]; omega)]
      have ecu : f_X6_isCatchingUp time pos va8 (f_X6_smallestBuffer pos as an va8 vn vs) = if lateS c σ then 1 else 0 := by
        unfold f_X6_isCatchingUp f_X8_isLive f_X6_behindLive
        rw [v13, v14, v5]
        have er : (rm32 time 10).toInt = σ.time % 10 := by rw [rem32 (by omega) (by decide), Rt]; rfl
        have e1 : (time + va8 13).toInt = σ.time + c.v 13 := by rw [add32 (by omega) (by omega), Rt, k13]
        have e2 : (time + va8 13 - pos).toInt = σ.time + c.v 13 - σ.pos := by rw [sub32 (by omega) (by omega), e1, Rp]
        by_cases u1 : σ.time % 10 = 0
        · rw [if_pos (by rw [eq32, er, u1]; rfl)]
          by_cases u2 : 0 < c.v 13
          · simp only [if_neg (show ¬ va8 13 ≤ 0 by rw [le32, k13]; simp only [Int32.reduceToInt]; omega), if_neg one_z]
            by_cases u3 : c.v 14 < σ.time + c.v 13 - σ.pos
            · rw [if_neg (by rw [le32]; omega)]
              by_cases u4 : c.v 5 ≤ smallS c σ
              · rw [if_neg (by rw [lt32]; omega), if_pos (show lateS c σ from ⟨u1, u2, u3, u4⟩)]
              · rw [if_pos (by rw [lt32]; omega), if_neg (fun o : lateS c σ => u4 o.2.2.2)]
            · rw [if_pos (by rw [le32]; omega), if_neg (fun o : lateS c σ => u3 o.2.2.1)]
          · simp only [if_pos (show va8 13 ≤ 0 by rw [le32, k13]; simp only [Int32.reduceToInt]; omega), if_true]
            rw [if_neg (fun o : lateS c σ => u2 o.2.1)]
        · rw [if_neg (by rw [eq32, er]; exact u1), if_neg (fun o : lateS c σ => u1 o.1)]
      rw [ecu]
      by_cases l : lateS c σ
      · rw [if_pos l, if_neg one_z]
        exact ⟨_, _, _, _, rfl, fin _ (by rw [if_pos ⟨w, l⟩]; exact q2)⟩
      · rw [if_neg l, if_pos rfl]
        exact ⟨_, _, _, _, rfl, fin _ (by rw [if_neg (fun o => l o.2)]; exact q1)⟩
    · rw [if_pos (by rw [lt32, es]; simp only [Int32.reduceToInt]; omega)]
      exact ⟨_, _, _, _, rfl, fin _ (by rw [if_neg (fun o => w o.1)]; exact q1)⟩
