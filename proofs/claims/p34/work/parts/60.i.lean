/-! a download is given up -/
def upS (a b : Int) : Int := (a + b - 1) / b
def leftS (σ : Ss) : Int := upS ((σ.need - σ.got) * σ.dur) σ.got
def againS (c : Cf) (σ : Ss) (r : Nat) : Int := upS (sizeS c 0 (c.vr r) r σ.seg * σ.dur) σ.got
def cutS (c : Cf) (σ : Ss) : Nat → Int
  | 0 => -1
  | n + 1 => if againS c σ n < leftS σ then n else cutS c σ n
def lostS (σ : Ss) : Ss := (Ss.mk (σ.time) (σ.pos) (σ.state) (σ.vs) (σ.as) (σ.going) (σ.track) (σ.seg) (σ.rung) (σ.wait) (σ.dur) (σ.got) (σ.need) (σ.last) (σ.chg) (σ.su) (σ.st) (σ.pl) (σ.stalls) (σ.aband + 1) (σ.fin) (σ.sw) (σ.len) (σ.kept) (σ.wasted + Int64.ofInt σ.got) (σ.qual) (σ.va) (σ.aa) (σ.sg) (σ.bits) (σ.durs))
def cutDone (c : Cf) (σ : Ss) (m : Nat) : Ss := if 0 ≤ cutS c σ m then beginsS c (lostS σ) 0 σ.seg (cutS c σ m) else σ
abbrev mayCut (c : Cf) (σ : Ss) : Prop := σ.track = 0 ∧ 0 < σ.rung ∧ 0 < σ.got ∧ c.v 11 + c.v 2 ≤ σ.dur
def givesS (c : Cf) (σ : Ss) : Ss := if σ.going = 1 ∧ mayCut c σ ∧ bufV c σ < leftS σ then cutDone c σ σ.rung.toNat else σ
theorem cut_b {c : Cf} {σ : Ss} : ∀ m : Nat, -1 ≤ cutS c σ m ∧ cutS c σ m < m
  | 0 => by simp [cutS]
  | m + 1 => by
    have := cut_b (c := c) (σ := σ) m
    unfold cutS
    split <;> omega
theorem lost_wf {c : Cf} {σ : Ss} {T : Int} (S : WfS c T σ) (hT : T + 1 ≤ 41000000) : WfS c (T + 1) (lostS σ) := by
  have T0 := S.T0
  have su1 := S.su1
  have st1 := S.st1
  have pl1 := S.pl1
  have stalls1 := S.stalls1
  have aband1 := S.aband1
  have aband0 := S.aband0
  have fin1 := S.fin1
  have d1 := S.d1
  exact (WfS.mk (h_T0 := by omega) (h_T1 := hT) (h_t0 := S.t0) (h_t1 := S.t1) (h_s0 := S.s0) (h_s1 := S.s1) (h_v0 := S.v0) (h_v1 := S.v1) (h_a0 := S.a0) (h_a1 := S.a1) (h_p0 := S.p0) (h_pv := S.pv) (h_pa := S.pa) (h_p2 := S.p2) (h_l0 := S.l0) (h_l1 := S.l1) (h_c0 := S.c0) (h_c1 := S.c1) (h_n0 := S.n0) (h_n1 := S.n1) (h_k0 := S.k0) (h_k1 := S.k1) (h_g0 := S.g0) (h_tr := S.tr) (h_sq := S.sq) (h_sl := S.sl) (h_r0 := S.r0) (h_r1 := S.r1) (h_w0 := S.w0) (h_w1 := S.w1) (h_d0 := S.d0) (h_d1 := fun h => by show σ.dur ≤ T + 1; have := d1 h; omega) (h_e0 := S.e0) (h_e1 := S.e1) (h_q0 := S.q0) (h_q1 := S.q1) (h_su0 := S.su0) (h_su1 := by show σ.su ≤ _; omega) (h_st0 := S.st0) (h_st1 := by show σ.st ≤ _; omega) (h_pl0 := S.pl0) (h_pl1 := by show σ.pl ≤ _; omega) (h_stalls0 := S.stalls0) (h_stalls1 := by show σ.stalls ≤ _; omega) (h_aband0 := by show 0 ≤ σ.aband + 1; omega) (h_aband1 := by show σ.aband + 1 ≤ _; omega) (h_fin0 := S.fin0) (h_fin1 := by show σ.fin ≤ _; omega) (h_sw0 := S.sw0) (h_sw1 := S.sw1) (h_va := S.va) (h_aa := S.aa) (h_sg := S.sg) (h_sm := S.sm))
theorem mono_wf {c : Cf} {σ : Ss} {T : Int} (S : WfS c T σ) (hT : T + 1 ≤ 41000000) : WfS c (T + 1) σ := by
  have T0 := S.T0
  have su1 := S.su1
  have st1 := S.st1
  have pl1 := S.pl1
  have stalls1 := S.stalls1
  have aband1 := S.aband1
  have fin1 := S.fin1
  have d1 := S.d1
  exact (WfS.mk (h_T0 := by omega) (h_T1 := hT) (h_t0 := S.t0) (h_t1 := S.t1) (h_s0 := S.s0) (h_s1 := S.s1) (h_v0 := S.v0) (h_v1 := S.v1) (h_a0 := S.a0) (h_a1 := S.a1) (h_p0 := S.p0) (h_pv := S.pv) (h_pa := S.pa) (h_p2 := S.p2) (h_l0 := S.l0) (h_l1 := S.l1) (h_c0 := S.c0) (h_c1 := S.c1) (h_n0 := S.n0) (h_n1 := S.n1) (h_k0 := S.k0) (h_k1 := S.k1) (h_g0 := S.g0) (h_tr := S.tr) (h_sq := S.sq) (h_sl := S.sl) (h_r0 := S.r0) (h_r1 := S.r1) (h_w0 := S.w0) (h_w1 := S.w1) (h_d0 := S.d0) (h_d1 := fun h => by have := d1 h; omega) (h_e0 := S.e0) (h_e1 := S.e1) (h_q0 := S.q0) (h_q1 := S.q1) (h_su0 := S.su0) (h_su1 := by omega) (h_st0 := S.st0) (h_st1 := by omega) (h_pl0 := S.pl0) (h_pl1 := by omega) (h_stalls0 := S.stalls0) (h_stalls1 := by omega) (h_aband0 := S.aband0) (h_aband1 := by omega) (h_fin0 := S.fin0) (h_fin1 := by omega) (h_sw0 := S.sw0) (h_sw1 := S.sw1) (h_va := S.va) (h_aa := S.aa) (h_sg := S.sg) (h_sm := S.sm))
theorem gives_wf {c : Cf} {σ : Ss} (W : WfC c) {T : Int} (S : WfS c T σ) (hT : T + 1 ≤ 41000000) : WfS c (T + 1) (givesS c σ) := by
  unfold givesS
  split
  · rename_i h
    obtain ⟨G, h1, h2⟩ := h
    have t0 := h1.1
    unfold cutDone
    split
    · rename_i q
      have cb := cut_b (c := c) (σ := σ) σ.rung.toNat
      have sq := S.sq G
      have sl := S.sl G
      have r1 := S.r1 G
      have r0 := S.r0 G
      rw [if_pos t0] at sq r1
      have := begins_wf W (lost_wf S hT) (tr := 0) (rung := cutS c σ σ.rung.toNat) (Or.inl rfl) q (by rw [if_pos rfl]; omega) (by rw [if_pos rfl]; show σ.vs < c.v 1; omega)
      rw [if_pos rfl] at this
      rw [sq]; exact this
    · exact mono_wf S hT
  · exact mono_wf S hT
theorem up_b {a b A : Int} (a0 : 0 ≤ a) (b0 : 0 < b) : 0 ≤ a + b - 1 ∧ 0 ≤ upS a b := ⟨by omega, Int.ediv_nonneg (by omega) (by omega)⟩
theorem c_time {dur : Int32} {got x : Int64} (d0 : 0 ≤ dur.toInt) (d1 : dur.toInt ≤ 41000000) (g0 : 0 < got.toInt) (g1 : got.toInt ≤ 575000000) (x0 : 0 ≤ x.toInt) (x1 : x.toInt ≤ 575000000) : (f_X1_timeFor dur got x).toInt = upS (x.toInt * dur.toInt) got.toInt := by
  have m := mulb x0 x1 d0 d1
  have e1 : (x * dur.toInt64).toInt = x.toInt * dur.toInt := by rw [mul64 (by rw [tl]; omega) (by rw [tl]; omega), tl]
  have e2 : (x * dur.toInt64 + got).toInt = x.toInt * dur.toInt + got.toInt := by rw [add64 (by omega) (by omega), e1]
  have e3 : (x * dur.toInt64 + got - 1).toInt = x.toInt * dur.toInt + got.toInt - 1 := by rw [sub64 (by simp only [Int64.reduceToInt]; omega) (by simp only [Int64.reduceToInt]; omega), e2]; rfl
  unfold f_X1_timeFor
  rw [if_pos (by rw [lt64]; exact g0), div64 (by omega) (by omega), e3]; rfl
theorem c_cut {c : Cf} {σ : Ss} (W : WfC c) {T : Int} (S : WfS c T σ) (G : σ.going = 1) (ht : σ.track = 0) (hg : 0 < σ.got) (hT : T + 1 ≤ 41000000) {va8 : Nat → Int32} {vn : Int32} {vr : Nat → Int32} {an : Int32} {ar : Nat → Int32} {tot ph : Int32} {ln fl : Nat → Int32} (K : CC c va8 vn vr an ar tot ph ln fl) {last : Int32} {chg : Int32} {state : Int32} {time : Int32} {pos : Int32} {su : Int32} {st : Int32} {pl : Int32} {stalls : Int32} {aband : Int32} {fin : Int32} {sw : Int32} {wasted : Int64} {qual : Int64} {as : Int32} {aa : Nat → Int32} {going : Int32} {track : Int32} {seg : Int32} {rung : Int32} {wait : Int32} {dur : Int32} {need : Int64} {got : Int64} {len : Int32} {sg : Nat → Int32} {kept : Int32} {bits : Nat → Int64} {durs : Nat → Int64} {vs : Int32} {va : Nat → Int32} (R : RC c σ last chg state time pos su st pl stalls aband fin sw wasted qual as aa going track seg rung wait dur need got len sg kept bits durs vs va) {l1 : Int64} (hl : l1.toInt = leftS σ) :
    ∀ (m g : Nat) (l3 : Int32), l3.toInt = (m : Int) - 1 → m < g → (m : Int) ≤ σ.rung → ∃ last' chg' aband' wasted' going' track' seg' rung' wait' dur' need' got', f_X6_abandonIfSlow_b45 time va8 vr g last chg aband wasted going track seg rung wait dur need got l1 l3 = (last', chg', aband', wasted', going', track', seg', rung', wait', dur', need', got') ∧ RC c (cutDone c σ m) last' chg' state time pos su st pl stalls aband' fin sw wasted' qual as aa going' track' seg' rung' wait' dur' need' got' len sg kept bits durs vs va
  | 0, g + 1, l3, h3, hm, hr => by
    unfold f_X6_abandonIfSlow_b45
    rw [if_pos (by rw [lt32, h3]; simp)]
    exact ⟨_, _, _, _, _, _, _, _, _, _, _, _, rfl, R⟩
  | m + 1, g + 1, l3, h3, hm, hr => by
    have d0 := S.d0 G
    have d1 := S.d1 G
    have T1 := S.T1
    have e1 := S.e1 G
    have q1 := S.q1 G
    have r1 := S.r1 G
    have sq := S.sq G
    have sl := S.sl G
    have m1 := W.m1
    have v0 := S.v0
    have vn1 := W.vn1
    have a0 := S.aband0
    have a1 := S.aband1
    rw [if_pos ht] at sq r1
    have Rd := R.dur G
    have Rg := R.got G
    have Rs := R.seg G
    have hm3 : l3.toInt = m := by omega
    have rb := W.vr0 m (by omega)
    have sb := sizeS_b W (tr := 0) (rate := c.vr m) (rung := m) (seg := σ.seg) (by omega) rb.2
    have ez : (f_X8_bitsOf_0 va8 vr 0 l3 seg).toInt = sizeS c 0 (c.vr m) m σ.seg := by
      rw [c_bits W (rate := c.vr m) (K.v 0 (by decide)) (by rw [hm3]; exact K.vr m (by omega)) (by omega) rb.2 (by decide) (by decide) (by omega) (by omega) (by omega) (by omega), hm3, Rs]; rfl
    have et : (f_X1_timeFor dur got (f_X8_bitsOf_0 va8 vr 0 l3 seg)).toInt = againS c σ m := by
      rw [c_time (by omega) (by omega) (by omega) (by omega) (by omega) (by omega), ez, Rd, Rg]; rfl
    unfold f_X6_abandonIfSlow_b45
    rw [if_neg (by rw [lt32, hm3]; simp only [Int32.reduceToInt]; omega)]
    by_cases q : againS c σ m < leftS σ
    · have ec : cutS c σ (m + 1) = m := by unfold cutS; rw [if_pos q]
      obtain ⟨chg', z, hb, hc, hz⟩ := c_begin0 W (last := last) (chg := chg) (time := time) (sg := seg) (ru := l3) (ra := vr) (Rt := c.vr m) K.v (by rw [hm3]; exact K.vr m (by omega)) (by omega) rb.2 (by omega) (by omega) (by omega) (by omega)
      simp only [bnd]
      rw [if_neg (by rw [le64]; omega), hb]
      unfold cutDone
      rw [if_pos (by rw [ec]; omega), ec]
      have L : RC c (lostS σ) last chg state time pos su st pl stalls (aband + 1) fin sw (wasted + got) qual as aa going track seg rung wait dur need got len sg kept bits durs vs va :=
        (RC.mk (h_last := R.last) (h_chg := R.chg) (h_state := R.state) (h_time := R.time) (h_pos := R.pos) (h_su := R.su) (h_st := R.st) (h_pl := R.pl) (h_stalls := R.stalls) (h_aband := by { show (aband + 1).toInt = σ.aband + 1; rw [add32 (by rw [R.aband]; simp only [Int32.reduceToInt]; omega) (by rw [R.aband]; simp only [Int32.reduceToInt]; omega), R.aband]; rfl }) (h_fin := R.fin) (h_sw := R.sw) (h_wasted := by { show wasted + got = σ.wasted + Int64.ofInt σ.got; rw [R.wasted, ← Rg, Int64.ofInt_toInt] }) (h_qual := R.qual) (h_as := R.as) (h_aa := R.aa) (h_going := R.going) (h_track := R.track) (h_seg := R.seg) (h_rung := R.rung) (h_wait := R.wait) (h_dur := R.dur) (h_need := R.need) (h_got := R.got) (h_len := R.len) (h_sg := R.sg) (h_ft := R.ft) (h_kept := R.kept) (h_bits := R.bits) (h_durs := R.durs) (h_vs := R.vs) (h_va := R.va))
      refine ⟨_, _, _, _, _, _, _, _, _, _, _, _, rfl, rc_begin L ?_ ?_ rfl Rs hm3 (K.v 2 (by decide)) rfl ?_ rfl⟩
      · rw [if_pos rfl, hm3]
      · rw [if_pos rfl, hc, hm3, R.last, R.time, R.chg]; rfl
      · rw [hz, hm3, Rs]; rfl
    · have ec : cutS c σ (m + 1) = cutS c σ m := by conv => { lhs; unfold cutS }; rw [if_neg q]
      simp only [bnd]
      rw [if_pos (by rw [le64]; omega)]
      have := c_cut W S G ht hg hT K R hl m g (l3 + (-1)) (by rw [add32 (by simp only [Int32.reduceToInt]; omega) (by simp only [Int32.reduceToInt]; omega), hm3]; simp only [Int32.reduceToInt]; omega) (by omega) (by omega)
      have eD : cutDone c σ (m + 1) = cutDone c σ m := by unfold cutDone; rw [ec]
      rw [eD]; exact this
theorem c_gives {c : Cf} {σ : Ss} (W : WfC c) {T : Int} (S : WfS c T σ) (V : 1 ≤ c.vn) (hT : T + 1 ≤ 41000000) {va8 : Nat → Int32} {vn : Int32} {vr : Nat → Int32} {an : Int32} {ar : Nat → Int32} {tot ph : Int32} {ln fl : Nat → Int32} (K : CC c va8 vn vr an ar tot ph ln fl) {last : Int32} {chg : Int32} {state : Int32} {time : Int32} {pos : Int32} {su : Int32} {st : Int32} {pl : Int32} {stalls : Int32} {aband : Int32} {fin : Int32} {sw : Int32} {wasted : Int64} {qual : Int64} {as : Int32} {aa : Nat → Int32} {going : Int32} {track : Int32} {seg : Int32} {rung : Int32} {wait : Int32} {dur : Int32} {need : Int64} {got : Int64} {len : Int32} {sg : Nat → Int32} {kept : Int32} {bits : Nat → Int64} {durs : Nat → Int64} {vs : Int32} {va : Nat → Int32} (R : RC c σ last chg state time pos su st pl stalls aband fin sw wasted qual as aa going track seg rung wait dur need got len sg kept bits durs vs va) :
    (f_X6_mayBeAbandoned going track rung dur got va8 = 0 ∧ givesS c σ = σ) ∨ (f_X6_mayBeAbandoned going track rung dur got va8 = 1 ∧ ∃ last' chg' aband' wasted' going' track' seg' rung' wait' dur' need' got', f_X6_abandonIfSlow last chg time pos aband wasted going track seg rung wait dur need got va8 vn vr vs = (last', chg', aband', wasted', going', track', seg', rung', wait', dur', need', got') ∧ RC c (givesS c σ) last' chg' state time pos su st pl stalls aband' fin sw wasted' qual as aa going' track' seg' rung' wait' dur' need' got' len sg kept bits durs vs va) := by
  have v11 : f_X8_valueOf va8 11 = va8 11 := vo (by decide) (by decide)
  have v2 : f_X8_valueOf va8 2 = va8 2 := vo (by decide) (by decide)
  have h11 := K.v 11 (by decide)
  have h2 := K.v 2 (by decide)
  have w11 := W.b11
  have w2 := W.b2
  have u11 := W.a11
  have u2 := W.a2
  have es : (va8 11 + va8 2).toInt = c.v 11 + c.v 2 := by rw [add32 (by omega) (by omega), h11, h2]
  have Rgo := R.going
  unfold f_X6_mayBeAbandoned
  rw [v11, v2]
  rcases S.g0 with G | G
  · refine Or.inl ⟨?_, ?_⟩
    · rw [if_pos (by rw [eq32, Rgo, G]; rfl)]
    · unfold givesS; rw [if_neg (fun o => by have := o.1; omega)]
  · rw [if_neg (by rw [eq32, Rgo, G]; decide)]
    have Rt := R.track G
    have Rr := R.rung G
    have Rd := R.dur G
    have Rg := R.got G
    have Rn := R.need G
    by_cases q1 : σ.track = 0
    · rw [if_pos (by rw [eq32, Rt, q1]; rfl)]
      by_cases q2 : 0 < σ.rung
      · rw [if_neg (by rw [le32, Rr]; simp only [Int32.reduceToInt]; omega)]
        by_cases q3 : 0 < σ.got
        · rw [if_neg (by rw [le64, Rg]; simp only [Int64.reduceToInt]; omega)]
          by_cases q4 : c.v 11 + c.v 2 ≤ σ.dur
          · rw [if_neg (by rw [lt32]; omega)]
            refine Or.inr ⟨rfl, ?_⟩
            have d0 := S.d0 G
            have d1 := S.d1 G
            have T1 := S.T1
            have e1 := S.e1 G
            have g1 := S.q1 G
            have eb := c_buf0 W S V (va := va8) (K.v 0 (by decide)) R.pos K.vn R.vs
            have en : (need - got).toInt = σ.need - σ.got := by rw [sub64 (by omega) (by omega), Rn, Rg]
            have el : (f_X1_timeFor dur got (need - got)).toInt = leftS σ := by
              rw [c_time (by omega) (by omega) (by omega) (by omega) (by omega) (by omega), en, Rd, Rg]; rfl
            unfold f_X6_abandonIfSlow givesS
            simp only [bnd]
            by_cases q5 : bufV c σ < leftS σ
            · rw [if_pos (by rw [lt64, tl]; omega), if_pos ⟨G, ⟨q1, q2, q3, q4⟩, q5⟩]
              have r1 := S.r1 G
              have vn1 := W.vn1
              rw [if_pos q1] at r1
              have er : (rung - 1).toInt = σ.rung - 1 := by rw [sub32 (by simp only [Int32.reduceToInt]; omega) (by simp only [Int32.reduceToInt]; omega), Rr]; rfl
              exact c_cut W S G q1 q3 hT K R el σ.rung.toNat _ _ (by omega) (by omega) (by omega)
            · rw [if_neg (by rw [lt64, tl]; omega), if_neg (fun o => q5 o.2.2)]
              exact ⟨_, _, _, _, _, _, _, _, _, _, _, _, rfl, R⟩
          · refine Or.inl ⟨by rw [if_pos (by rw [lt32]; omega)], ?_⟩
            unfold givesS; rw [if_neg (fun o => q4 o.2.1.2.2.2)]
        · refine Or.inl ⟨by rw [if_pos (by rw [le64, Rg]; simp only [Int64.reduceToInt]; omega)], ?_⟩
          unfold givesS; rw [if_neg (fun o => q3 o.2.1.2.2.1)]
      · refine Or.inl ⟨by rw [if_pos (by rw [le32, Rr]; simp only [Int32.reduceToInt]; omega)], ?_⟩
        unfold givesS; rw [if_neg (fun o => q2 o.2.1.2.1)]
    · refine Or.inl ⟨by rw [if_neg (by rw [eq32, Rt]; exact q1)], ?_⟩
      unfold givesS; rw [if_neg (fun o => q1 o.2.1.1)]
