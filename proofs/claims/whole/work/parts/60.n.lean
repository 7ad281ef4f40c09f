/-! the reference gives up, plays, tells -/
theorem m_up {a b : Int64} (a0 : 0 ≤ a.toInt) (a1 : a.toInt ≤ 100000000000000000) (b0 : 0 < b.toInt) (b1 : b.toInt ≤ 575000000) : ∃ z, f_X10_up a b = some z ∧ z.toInt = upS a.toInt b.toInt := by
  have e2 : (a + b).toInt = a.toInt + b.toInt := add64 (by omega) (by omega)
  have e3 : (a + b - 1).toInt = a.toInt + b.toInt - 1 := by rw [sub64 (by simp only [Int64.reduceToInt]; omega) (by simp only [Int64.reduceToInt]; omega), e2]; rfl
  unfold f_X10_up
  rw [grd_n (by omega)]
  refine ⟨_, rfl, ?_⟩
  rw [div64 (by omega) (by omega), e3]; rfl
theorem m_cut {c : Cf} {σ : Ss} (W : WfC c) {T : Int} (S : WfS c T σ) (V : 1 ≤ c.vn) (G : σ.going = 1) (ht : σ.track = 0) (hg : 0 < σ.got) (hT : T + 1 ≤ 41000000) {p la ra : Nat → Int32} {ph : Int32} {ln fl : Nat → Int32} (K : CM c p la ra ph ln fl) {s : Nat → Int64} (R : RM c σ s) {l2 : Int64} (hl : l2.toInt = leftS σ) :
    ∀ (m k g : Nat) (l4 l6 : Int64), (k : Int) + m = σ.rung → m < g → l6.toInt = k → l4.toInt = cutS c σ k → ∃ s', f_X10_givesUp_b81 p ra g s l2 l4 l6 = some s' ∧ RM c (if bufV c σ < leftS σ then cutDone c σ σ.rung.toNat else σ) s'
  | 0, k, g + 1, l4, l6, hk, hg2, h6, h4 => by
    have Rr := R.rung G
    have Rg := R.got G
    have Rs := R.seg G
    have sq := S.sq G
    have sl := S.sl G
    have r1 := S.r1 G
    have v0 := S.v0
    have v1 := S.v1
    have a1 := S.a1
    have n1 := S.n1
    have k1 := S.k1
    have m1 := W.m1
    have ab0 := S.aband0
    have ab1 := S.aband1
    rw [if_pos ht] at sq r1
    have ek : σ.rung.toNat = k := by omega
    obtain ⟨z, hz, ez⟩ := m_buf0 W S K R
    have cb := cut_b (c := c) (σ := σ) k
    unfold f_X10_givesUp_b81
    rw [if_pos (by rw [le64]; omega), hz, obnd_some, ek]
    by_cases q : bufV c σ < leftS σ
    · rw [if_neg (by rw [le64]; omega), if_pos q]
      unfold cutDone
      by_cases q2 : 0 ≤ cutS c σ k
      · rw [if_neg (by rw [lt64, h4]; simp only [Int64.reduceToInt]; omega), if_pos q2]
        have L : RM c (lostS σ) (vp_updL (vp_updL s 21 (s 21 + s 11)) 19 (s 19 + 1)) :=
          (RM.mk (h_time := by { (try simp (disch := omega) only [updL_ne, updL_eq]); exact R.time }) (h_pos := by { (try simp (disch := omega) only [updL_ne, updL_eq]); exact R.pos }) (h_state := by { (try simp (disch := omega) only [updL_ne, updL_eq]); exact R.state }) (h_vs := by { (try simp (disch := omega) only [updL_ne, updL_eq]); exact R.vs }) (h_as := by { (try simp (disch := omega) only [updL_ne, updL_eq]); exact R.as }) (h_going := by { (try simp (disch := omega) only [updL_ne, updL_eq]); exact R.going }) (h_track := fun h => by { (try simp (disch := omega) only [updL_ne, updL_eq]); exact R.track h }) (h_seg := fun h => by { (try simp (disch := omega) only [updL_ne, updL_eq]); exact R.seg h }) (h_rung := fun h => by { (try simp (disch := omega) only [updL_ne, updL_eq]); exact R.rung h }) (h_wait := fun h => by { (try simp (disch := omega) only [updL_ne, updL_eq]); exact R.wait h }) (h_dur := fun h => by { (try simp (disch := omega) only [updL_ne, updL_eq]); exact R.dur h }) (h_got := fun h => by { (try simp (disch := omega) only [updL_ne, updL_eq]); exact R.got h }) (h_need := fun h => by { (try simp (disch := omega) only [updL_ne, updL_eq]); exact R.need h }) (h_last := by { (try simp (disch := omega) only [updL_ne, updL_eq]); exact R.last }) (h_chg := by { (try simp (disch := omega) only [updL_ne, updL_eq]); exact R.chg }) (h_su := by { (try simp (disch := omega) only [updL_ne, updL_eq]); exact R.su }) (h_st := by { (try simp (disch := omega) only [updL_ne, updL_eq]); exact R.st }) (h_pl := by { (try simp (disch := omega) only [updL_ne, updL_eq]); exact R.pl }) (h_stalls := by { (try simp (disch := omega) only [updL_ne, updL_eq]); exact R.stalls }) (h_aband := by { (try simp (disch := omega) only [updL_ne, updL_eq]); show (s 19 + 1).toInt = σ.aband + 1; rw [add64 (by rw [R.aband]; simp only [Int64.reduceToInt]; omega) (by rw [R.aband]; simp only [Int64.reduceToInt]; omega), R.aband]; rfl }) (h_fin := by { (try simp (disch := omega) only [updL_ne, updL_eq]); exact R.fin }) (h_wasted := by { (try simp (disch := omega) only [updL_ne, updL_eq]); show s 21 + s 11 = σ.wasted + Int64.ofInt σ.got; rw [R.wasted, ← Rg, Int64.ofInt_toInt] }) (h_qual := by { (try simp (disch := omega) only [updL_ne, updL_eq]); exact R.qual }) (h_len := by { (try simp (disch := omega) only [updL_ne, updL_eq]); exact R.len }) (h_kept := by { (try simp (disch := omega) only [updL_ne, updL_eq]); exact R.kept }) (h_bits := fun k hk => by { have hk : (k : Int) < σ.kept := hk; (try simp (disch := omega) only [updL_ne, updL_eq]); exact R.bits k hk }) (h_durs := fun k hk => by { have hk : (k : Int) < σ.kept := hk; (try simp (disch := omega) only [updL_ne, updL_eq]); exact R.durs k hk }) (h_va := fun k hk => by { have hk : (k : Int) < σ.vs := hk; (try simp (disch := omega) only [updL_ne, updL_eq]); exact R.va k hk }) (h_aa := fun k hk => by { have hk : (k : Int) < σ.as := hk; (try simp (disch := omega) only [updL_ne, updL_eq]); exact R.aa k hk }) (h_sg := fun k hk => by { have hk : (k : Int) < σ.len := hk; (try simp (disch := omega) only [updL_ne, updL_eq]); exact R.sg k hk }))
        have x19 : vp_updL s 21 (s 21 + s 11) 19 = s 19 := by (try simp (disch := omega) only [updL_ne, updL_eq])
        have x7 : vp_updL (vp_updL s 21 (s 21 + s 11)) 19 (s 19 + 1) 7 = s 7 := by (try simp (disch := omega) only [updL_ne, updL_eq])
        simp only [bnd_p]
        rw [x19, x7]
        obtain ⟨s', hs, Rs'⟩ := m_begins W (lost_wf S hT) K L (p1 := 0) (p2 := s 7) (p3 := l4) (Or.inl rfl) (by omega) (by omega) (by omega) (by show l4.toInt < c.vn; omega)
        rw [hs, obnd_some]
        refine ⟨_, rfl, ?_⟩
        rw [h4, Rs] at Rs'; exact Rs'
      · rw [if_pos (by rw [lt64, h4]; simp only [Int64.reduceToInt]; omega), if_neg q2]; exact ⟨_, rfl, R⟩
    · rw [if_pos (by rw [le64]; omega), if_neg q]; exact ⟨_, rfl, R⟩
  | m + 1, k, g + 1, l4, l6, hk, hg2, h6, h4 => by
    have Rr := R.rung G
    have Rg := R.got G
    have Rs := R.seg G
    have Rd := R.dur G
    have sq := S.sq G
    have sl := S.sl G
    have r1 := S.r1 G
    have d0 := S.d0 G
    have d1 := S.d1 G
    have T1 := S.T1
    have e1 := S.e1 G
    have q1 := S.q1 G
    have v0 := S.v0
    have m1 := W.m1
    have vn1 := W.vn1
    rw [if_pos ht] at sq r1
    have rb := W.vr0 k (by omega)
    have sb := sizeS_b W (tr := 0) (rate := c.vr k) (rung := k) (seg := σ.seg) (by omega) rb.2
    obtain ⟨z, hz, ez⟩ := m_size W (p := p) (ra := ra) (p0 := 0) (p1 := l6) (p2 := s 7) (rate := c.vr k) (K.v 0 (by decide)) (by
      have : (6 * (0 : Int32).toInt + l6.toInt).toNat = k := by simp only [Int32.reduceToInt]; omega
      rw [this]; exact K.vr k (by omega)) (by omega) rb.2 (by decide) (by decide) (by omega) (by omega) (by omega) (by omega)
    rw [h6, Rs] at ez
    have ez' : z.toInt = sizeS c 0 (c.vr k) k σ.seg := ez
    have mm := mulb (a := z.toInt) (b := σ.dur) (A := 575000000) (B := 41000000) (by omega) (by omega) (by omega) (by omega)
    have ep : (z * s 10).toInt = z.toInt * σ.dur := by rw [mul64 (by rw [Rd]; omega) (by rw [Rd]; omega), Rd]
    obtain ⟨y, hy, ey⟩ := m_up (a := z * s 10) (b := s 11) (by omega) (by omega) (by omega) (by omega)
    have eA : y.toInt = againS c σ k := by rw [ey, ep, ez', Rg]; rfl
    have el : (l6 + 1).toInt = ((k + 1 : Nat) : Int) := by rw [add64 (by simp only [Int64.reduceToInt]; omega) (by simp only [Int64.reduceToInt]; omega), h6]; rfl
    unfold f_X10_givesUp_b81
    rw [if_neg (by rw [le64]; omega), hz, obnd_some, hy, obnd_some]
    by_cases q : againS c σ k < leftS σ
    · rw [if_neg (by rw [le64]; omega)]
      exact m_cut W S V G ht hg hT K R hl m (k + 1) g _ _ (by omega) (by omega) el (by rw [h6]; unfold cutS; rw [if_pos q])
    · rw [if_pos (by rw [le64]; omega)]
      exact m_cut W S V G ht hg hT K R hl m (k + 1) g _ _ (by omega) (by omega) el (by rw [h4]; conv => { rhs; unfold cutS }; rw [if_neg q])
theorem m_gives {c : Cf} {σ : Ss} (W : WfC c) {T : Int} (S : WfS c T σ) (V : 1 ≤ c.vn) (G : σ.going = 1) (hT : T + 1 ≤ 41000000) {p la ra : Nat → Int32} {ph : Int32} {ln fl : Nat → Int32} (K : CM c p la ra ph ln fl) {s : Nat → Int64} (R : RM c σ s) : ∃ s', f_X10_givesUp p ra s = some s' ∧ RM c (givesS c σ) s' := by
  have h11 := K.v 11 (by decide)
  have h2 := K.v 2 (by decide)
  have w11 := W.b11
  have w2 := W.b2
  have u11 := W.a11
  have u2 := W.a2
  have es : (p 11 + p 2).toInt = c.v 11 + c.v 2 := by rw [add32 (by omega) (by omega), h11, h2]
  have Rt := R.track G
  have Rr := R.rung G
  have Rd := R.dur G
  have Rg := R.got G
  have Rn := R.need G
  have d0 := S.d0 G
  have d1 := S.d1 G
  have T1 := S.T1
  have e1 := S.e1 G
  have g1 := S.q1 G
  have g0 := S.q0 G
  have r0 := S.r0 G
  unfold f_X10_givesUp givesS
  by_cases q1 : σ.track = 0
  · rw [if_pos (by rw [eq64, Rt, q1]; rfl)]
    by_cases q2 : 0 < σ.rung
    · rw [if_neg (by rw [eq64, Rr]; simp only [Int64.reduceToInt]; omega)]
      by_cases q3 : 0 < σ.got
      · rw [if_neg (by rw [eq64, Rg]; simp only [Int64.reduceToInt]; omega)]
        by_cases q4 : c.v 11 + c.v 2 ≤ σ.dur
        · have en : (s 12 - s 11).toInt = σ.need - σ.got := by rw [sub64 (by omega) (by omega), Rn, Rg]
          have mm := mulb (a := σ.need - σ.got) (b := σ.dur) (A := 575000000) (B := 41000000) (by omega) (by omega) (by omega) (by omega)
          have ep : ((s 12 - s 11) * s 10).toInt = (σ.need - σ.got) * σ.dur := by rw [mul64 (by rw [en, Rd]; omega) (by rw [en, Rd]; omega), en, Rd]
          obtain ⟨y, hy, ey⟩ := m_up (a := (s 12 - s 11) * s 10) (b := s 11) (by omega) (by omega) (by omega) (by omega)
          have el : y.toInt = leftS σ := by rw [ey, ep, Rg]; rfl
          rw [if_pos (by rw [le64, tl]; omega), hy, obnd_some]
          obtain ⟨s', hs, Rs⟩ := m_cut W S V G q1 q3 hT K R el σ.rung.toNat 0 ((((s 8).toInt - (0 : Int64).toInt).toNat) + 1) (-1) 0 (by omega) (by simp only [Int64.reduceToInt]; omega) rfl rfl
          refine ⟨s', hs, ?_⟩
          by_cases q5 : bufV c σ < leftS σ
          · rw [if_pos q5] at Rs
            rw [if_pos ⟨G, ⟨q1, q2, q3, q4⟩, q5⟩]; exact Rs
          · rw [if_neg q5] at Rs
            rw [if_neg (fun o => q5 o.2.2)]; exact Rs
        · rw [if_neg (by rw [le64, tl]; omega), if_neg (fun o => q4 o.2.1.2.2.2)]; exact ⟨_, rfl, R⟩
      · rw [if_pos (by rw [eq64, Rg]; simp only [Int64.reduceToInt]; omega), if_neg (fun o => q3 o.2.1.2.2.1)]; exact ⟨_, rfl, R⟩
    · rw [if_pos (by rw [eq64, Rr]; simp only [Int64.reduceToInt]; omega), if_neg (fun o => q2 o.2.1.2.1)]; exact ⟨_, rfl, R⟩
  · rw [if_neg (by rw [eq64, Rt]; exact q1), if_neg (fun o => q1 o.2.1.1)]; exact ⟨_, rfl, R⟩
theorem m_all {c : Cf} {σ : Ss} (W : WfC c) {T : Int} (S : WfS c T σ) {p la ra : Nat → Int32} {ph : Int32} {ln fl : Nat → Int32} (K : CM c p la ra ph ln fl) {s : Nat → Int64} (R : RM c σ s) : f_X10_hasAll la p s = if allS c σ then 1 else 0 := by
  have Rv := R.vs
  have Ra := R.as
  have v1 := S.v1
  have a1 := S.a1
  have an0 := W.an0
  have Kn := K.an
  have k1 := K.v 1 (by decide)
  unfold f_X10_hasAll
  by_cases q : c.v 1 ≤ σ.vs
  · rw [if_pos (by rw [eq64, tl]; omega)]
    by_cases h : c.an ≤ 0
    · rw [if_pos (by rw [eq32, Kn]; simp only [Int32.reduceToInt]; omega), if_pos (show allS c σ from ⟨q, Or.inl h⟩)]
    · rw [if_neg (by rw [eq32, Kn]; simp only [Int32.reduceToInt]; omega)]
      by_cases q2 : c.v 1 ≤ σ.as
      · rw [if_pos (by rw [eq64, tl]; omega), if_pos (show allS c σ from ⟨q, Or.inr q2⟩)]
      · rw [if_neg (by rw [eq64, tl]; omega), if_neg (fun o : allS c σ => o.2.elim h q2)]
  · rw [if_neg (by rw [eq64, tl]; omega), if_neg (fun o : allS c σ => q o.1)]
theorem m_play {c : Cf} {σ : Ss} (W : WfC c) {T : Int} (S : WfS c T σ) (V : 1 ≤ c.vn) (hT : T + 1 ≤ 41000000) {p la ra : Nat → Int32} {ph : Int32} {ln fl : Nat → Int32} (K : CM c p la ra ph ln fl) {s : Nat → Int64} (R : RM c (Ss.mk (σ.time) (σ.pos) (2) (σ.vs) (σ.as) (σ.going) (σ.track) (σ.seg) (σ.rung) (σ.wait) (σ.dur) (σ.got) (σ.need) (σ.last) (σ.chg) (σ.su) (σ.st) (σ.pl) (σ.stalls) (σ.aband) (σ.fin) (σ.sw) (σ.len) (σ.kept) (σ.wasted) (σ.qual) (σ.va) (σ.aa) (σ.sg) (σ.bits) (σ.durs)) s) {z : Int64} (hz : z.toInt = smallS c σ) : ∃ s', f_X10_plays_b73 p ra s z = some s' ∧ RM c (playS c σ) s' := by
  have b1 := S.k1
  have b2 := S.v1
  have b3 := S.a1
  have b4 := S.n1
  have m0 := W.m0
  have m1 := W.m1
  have d0 := W.d0
  have d1 := W.d1
  have a13 := W.a13
  have b13 := W.b13
  have p0 := S.p0
  have pv := S.pv
  have vD := WfS.vD W S
  have t0 := S.t0
  have t1 := S.t1
  have T1 := S.T1
  have x0 := S.stalls0
  have x1 := S.stalls1
  have vn1 := W.vn1
  have k0 := K.v 0 (by decide)
  have k1 := K.v 1 (by decide)
  have k5 := K.v 5 (by decide)
  have k13 := K.v 13 (by decide)
  have k14 := K.v 14 (by decide)
  have sb := small_b W S
  have Rp : (s 1).toInt = σ.pos := R.pos
  have Rt : (s 0).toInt = σ.time := R.time
  have Rs : (s 2).toInt = 2 := R.state
  have Rx : (s 18).toInt = σ.stalls := R.stalls
  have Rq : s 22 = σ.qual := R.qual
  unfold f_X10_plays_b73 playS
  rw [if_pos (by rw [eq64, Rs]; rfl)]
  by_cases zz : smallS c σ = 0
  · rw [if_pos (by rw [eq64, hz]; exact zz), if_pos zz]
    have mm := mulb (a := c.v 1) (b := c.v 0) (A := 200) (B := 10000) (by omega) m1 (by omega) d1
    have em : ((p 1).toInt64 * (p 0).toInt64).toInt = c.v 1 * c.v 0 := by rw [mul64 (by rw [tl, tl, k1, k0]; omega) (by rw [tl, tl, k1, k0]; omega), tl, tl, k1, k0]
    by_cases o : overS c σ
    · rw [if_pos (by rw [eq64, em, Rp]; exact o), if_pos o]
      have e18 : vp_updL s 2 4 18 = s 18 := by (try simp (disch := omega) only [updL_ne, updL_eq])
      have ex : (s 18 + 0).toInt = σ.stalls := by rw [add64 (by rw [Rx]; simp only [Int64.reduceToInt]; omega) (by rw [Rx]; simp only [Int64.reduceToInt]; omega), Rx]; simp only [Int64.reduceToInt]; omega
      unfold f_X10_plays_b117
      simp only [bnd_p, if_neg one_z, e18]
      refine ⟨_, rfl, (RM.mk (h_time := by { (try simp (disch := omega) only [updL_ne, updL_eq]); exact R.time }) (h_pos := by { (try simp (disch := omega) only [updL_ne, updL_eq]); exact R.pos }) (h_state := by { (try simp (disch := omega) only [updL_ne, updL_eq]); rfl }) (h_vs := by { (try simp (disch := omega) only [updL_ne, updL_eq]); exact R.vs }) (h_as := by { (try simp (disch := omega) only [updL_ne, updL_eq]); exact R.as }) (h_going := by { (try simp (disch := omega) only [updL_ne, updL_eq]); exact R.going }) (h_track := fun h => by { (try simp (disch := omega) only [updL_ne, updL_eq]); exact R.track h }) (h_seg := fun h => by { (try simp (disch := omega) only [updL_ne, updL_eq]); exact R.seg h }) (h_rung := fun h => by { (try simp (disch := omega) only [updL_ne, updL_eq]); exact R.rung h }) (h_wait := fun h => by { (try simp (disch := omega) only [updL_ne, updL_eq]); exact R.wait h }) (h_dur := fun h => by { (try simp (disch := omega) only [updL_ne, updL_eq]); exact R.dur h }) (h_got := fun h => by { (try simp (disch := omega) only [updL_ne, updL_eq]); exact R.got h }) (h_need := fun h => by { (try simp (disch := omega) only [updL_ne, updL_eq]); exact R.need h }) (h_last := by { (try simp (disch := omega) only [updL_ne, updL_eq]); exact R.last }) (h_chg := by { (try simp (disch := omega) only [updL_ne, updL_eq]); exact R.chg }) (h_su := by { (try simp (disch := omega) only [updL_ne, updL_eq]); exact R.su }) (h_st := by { (try simp (disch := omega) only [updL_ne, updL_eq]); exact R.st }) (h_pl := by { (try simp (disch := omega) only [updL_ne, updL_eq]); exact R.pl }) (h_stalls := by { (try simp (disch := omega) only [updL_ne, updL_eq]); exact ex }) (h_aband := by { (try simp (disch := omega) only [updL_ne, updL_eq]); exact R.aband }) (h_fin := by { (try simp (disch := omega) only [updL_ne, updL_eq]); exact R.fin }) (h_wasted := by { (try simp (disch := omega) only [updL_ne, updL_eq]); exact R.wasted }) (h_qual := by { (try simp (disch := omega) only [updL_ne, updL_eq]); exact R.qual }) (h_len := by { (try simp (disch := omega) only [updL_ne, updL_eq]); exact R.len }) (h_kept := by { (try simp (disch := omega) only [updL_ne, updL_eq]); exact R.kept }) (h_bits := fun k hk => by { have hk : (k : Int) < σ.kept := hk; (try simp (disch := omega) only [updL_ne, updL_eq]); exact R.bits k hk }) (h_durs := fun k hk => by { have hk : (k : Int) < σ.kept := hk; (try simp (disch := omega) only [updL_ne, updL_eq]); exact R.durs k hk }) (h_va := fun k hk => by { have hk : (k : Int) < σ.vs := hk; (try simp (disch := omega) only [updL_ne, updL_eq]); exact R.va k hk }) (h_aa := fun k hk => by { have hk : (k : Int) < σ.as := hk; (try simp (disch := omega) only [updL_ne, updL_eq]); exact R.aa k hk }) (h_sg := fun k hk => by { have hk : (k : Int) < σ.len := hk; (try simp (disch := omega) only [updL_ne, updL_eq]); exact R.sg k hk }))⟩
    · rw [if_neg (by rw [eq64, em, Rp]; exact o), if_neg o]
      have e18 : vp_updL s 2 3 18 = s 18 := by (try simp (disch := omega) only [updL_ne, updL_eq])
      have ex : (s 18 + 1).toInt = σ.stalls + 1 := by rw [add64 (by rw [Rx]; simp only [Int64.reduceToInt]; omega) (by rw [Rx]; simp only [Int64.reduceToInt]; omega), Rx]; rfl
      unfold f_X10_plays_b117
      simp only [bnd_p, if_true, e18]
      refine ⟨_, rfl, (RM.mk (h_time := by { (try simp (disch := omega) only [updL_ne, updL_eq]); exact R.time }) (h_pos := by { (try simp (disch := omega) only [updL_ne, updL_eq]); exact R.pos }) (h_state := by { (try simp (disch := omega) only [updL_ne, updL_eq]); rfl }) (h_vs := by { (try simp (disch := omega) only [updL_ne, updL_eq]); exact R.vs }) (h_as := by { (try simp (disch := omega) only [updL_ne, updL_eq]); exact R.as }) (h_going := by { (try simp (disch := omega) only [updL_ne, updL_eq]); exact R.going }) (h_track := fun h => by { (try simp (disch := omega) only [updL_ne, updL_eq]); exact R.track h }) (h_seg := fun h => by { (try simp (disch := omega) only [updL_ne, updL_eq]); exact R.seg h }) (h_rung := fun h => by { (try simp (disch := omega) only [updL_ne, updL_eq]); exact R.rung h }) (h_wait := fun h => by { (try simp (disch := omega) only [updL_ne, updL_eq]); exact R.wait h }) (h_dur := fun h => by { (try simp (disch := omega) only [updL_ne, updL_eq]); exact R.dur h }) (h_got := fun h => by { (try simp (disch := omega) only [updL_ne, updL_eq]); exact R.got h }) (h_need := fun h => by { (try simp (disch := omega) only [updL_ne, updL_eq]); exact R.need h }) (h_last := by { (try simp (disch := omega) only [updL_ne, updL_eq]); exact R.last }) (h_chg := by { (try simp (disch := omega) only [updL_ne, updL_eq]); exact R.chg }) (h_su := by { (try simp (disch := omega) only [updL_ne, updL_eq]); exact R.su }) (h_st := by { (try simp (disch := omega) only [updL_ne, updL_eq]); exact R.st }) (h_pl := by { (try simp (disch := omega) only [updL_ne, updL_eq]); exact R.pl }) (h_stalls := by { (try simp (disch := omega) only [updL_ne, updL_eq]); exact ex }) (h_aband := by { (try simp (disch := omega) only [updL_ne, updL_eq]); exact R.aband }) (h_fin := by { (try simp (disch := omega) only [updL_ne, updL_eq]); exact R.fin }) (h_wasted := by { (try simp (disch := omega) only [updL_ne, updL_eq]); exact R.wasted }) (h_qual := by { (try simp (disch := omega) only [updL_ne, updL_eq]); exact R.qual }) (h_len := by { (try simp (disch := omega) only [updL_ne, updL_eq]); exact R.len }) (h_kept := by { (try simp (disch := omega) only [updL_ne, updL_eq]); exact R.kept }) (h_bits := fun k hk => by { have hk : (k : Int) < σ.kept := hk; (try simp (disch := omega) only [updL_ne, updL_eq]); exact R.bits k hk }) (h_durs := fun k hk => by { have hk : (k : Int) < σ.kept := hk; (try simp (disch := omega) only [updL_ne, updL_eq]); exact R.durs k hk }) (h_va := fun k hk => by { have hk : (k : Int) < σ.vs := hk; (try simp (disch := omega) only [updL_ne, updL_eq]); exact R.va k hk }) (h_aa := fun k hk => by { have hk : (k : Int) < σ.as := hk; (try simp (disch := omega) only [updL_ne, updL_eq]); exact R.aa k hk }) (h_sg := fun k hk => by { have hk : (k : Int) < σ.len := hk; (try simp (disch := omega) only [updL_ne, updL_eq]); exact R.sg k hk }))⟩
  · rw [if_neg (by rw [eq64, hz]; exact zz), if_neg zz]
    have bv := sb.2.2.1
    unfold bufV at bv
    have sn := seg_now W S p0 (by omega : σ.pos < σ.vs * c.v 0)
    have ed : (s 1 / (p 0).toInt64).toInt = σ.pos / c.v 0 := by rw [div64 (by omega) (by rw [tl]; omega), tl, Rp, k0]
    have edi : (s 1 / (p 0).toInt64).toInt32.toInt = σ.pos / c.v 0 := by rw [ti (by omega) (by omega), ed]
    have ei : (50 + (s 1 / (p 0).toInt64).toInt32).toInt = 50 + σ.pos / c.v 0 := by rw [add32 (by simp only [Int32.reduceToInt]; omega) (by simp only [Int32.reduceToInt]; omega), edi]; rfl
    have ein : (50 + (s 1 / (p 0).toInt64).toInt32).toNatClampNeg = 50 + (σ.pos / c.v 0).toNat := by rw [tn, ei]; omega
    have erv : (s (50 + (σ.pos / c.v 0).toNat)).toInt = rungNow c σ := R.va _ (by show (((σ.pos / c.v 0).toNat : Nat) : Int) < σ.vs; omega)
    have rb := S.va (σ.pos / c.v 0).toNat (by omega)
    have erb : 0 ≤ rungNow c σ ∧ rungNow c σ < c.vn := rb
    have era : (ra (rungNow c σ).toNat).toInt = c.vr (rungNow c σ).toNat := K.vr _ (by omega)
    have q1 : (s 1 + 1).toInt = σ.pos + 1 := by rw [add64 (by rw [Rp]; simp only [Int64.reduceToInt]; omega) (by rw [Rp]; simp only [Int64.reduceToInt]; omega), Rp]; rfl
    have q2 : (s 1 + 2).toInt = σ.pos + 2 := by rw [add64 (by rw [Rp]; simp only [Int64.reduceToInt]; omega) (by rw [Rp]; simp only [Int64.reduceToInt]; omega), Rp]; rfl
    have fin : ∀ y : Int64, y.toInt = σ.pos + (if 2 ≤ smallS c σ ∧ lateS c σ then 2 else 1) → RM c (goS c σ) (vp_updL (vp_updL s 22 (s 22 + (ra (rungNow c σ).toNat).toInt64)) 1 y) := fun y hy =>
      (RM.mk (h_time := by { (try simp (disch := omega) only [updL_ne, updL_eq]); exact R.time }) (h_pos := by { (try simp (disch := omega) only [updL_ne, updL_eq]); exact hy }) (h_state := by { (try simp (disch := omega) only [updL_ne, updL_eq]); exact R.state }) (h_vs := by { (try simp (disch := omega) only [updL_ne, updL_eq]); exact R.vs }) (h_as := by { (try simp (disch := omega) only [updL_ne, updL_eq]); exact R.as }) (h_going := by { (try simp (disch := omega) only [updL_ne, updL_eq]); exact R.going }) (h_track := fun h => by { (try simp (disch := omega) only [updL_ne, updL_eq]); exact R.track h }) (h_seg := fun h => by { (try simp (disch := omega) only [updL_ne, updL_eq]); exact R.seg h }) (h_rung := fun h => by { (try simp (disch := omega) only [updL_ne, updL_eq]); exact R.rung h }) (h_wait := fun h => by { (try simp (disch := omega) only [updL_ne, updL_eq]); exact R.wait h }) (h_dur := fun h => by { (try simp (disch := omega) only [updL_ne, updL_eq]); exact R.dur h }) (h_got := fun h => by { (try simp (disch := omega) only [updL_ne, updL_eq]); exact R.got h }) (h_need := fun h => by { (try simp (disch := omega) only [updL_ne, updL_eq]); exact R.need h }) (h_last := by { (try simp (disch := omega) only [updL_ne, updL_eq]); exact R.last }) (h_chg := by { (try simp (disch := omega) only [updL_ne, updL_eq]); exact R.chg }) (h_su := by { (try simp (disch := omega) only [updL_ne, updL_eq]); exact R.su }) (h_st := by { (try simp (disch := omega) only [updL_ne, updL_eq]); exact R.st }) (h_pl := by { (try simp (disch := omega) only [updL_ne, updL_eq]); exact R.pl }) (h_stalls := by { (try simp (disch := omega) only [updL_ne, updL_eq]); exact R.stalls }) (h_aband := by { (try simp (disch := omega) only [updL_ne, updL_eq]); exact R.aband }) (h_fin := by { (try simp (disch := omega) only [updL_ne, updL_eq]); exact R.fin }) (h_wasted := by { (try simp (disch := omega) only [updL_ne, updL_eq]); exact R.wasted }) (h_qual := by { (try simp (disch := omega) only [updL_ne, updL_eq]); show s 22 + (ra (rungNow c σ).toNat).toInt64 = σ.qual + Int64.ofInt (c.vr (rungNow c σ).toNat); rw [Rq, ← era, ← tl, Int64.ofInt_toInt] }) (h_len := by { (try simp (disch := omega) only [updL_ne, updL_eq]); exact R.len }) (h_kept := by { (try simp (disch := omega) only [updL_ne, updL_eq]); exact R.kept }) (h_bits := fun k hk => by { have hk : (k : Int) < σ.kept := hk; (try simp (disch := omega) only [updL_ne, updL_eq]); exact R.bits k hk }) (h_durs := fun k hk => by { have hk : (k : Int) < σ.kept := hk; (try simp (disch := omega) only [updL_ne, updL_eq]); exact R.durs k hk }) (h_va := fun k hk => by { have hk : (k : Int) < σ.vs := hk; (try simp (disch := omega) only [updL_ne, updL_eq]); exact R.va k hk }) (h_aa := fun k hk => by { have hk : (k : Int) < σ.as := hk; (try simp (disch := omega) only [updL_ne, updL_eq]); exact R.aa k hk }) (h_sg := fun k hk => by { have hk : (k : Int) < σ.len := hk; (try simp (disch := omega) only [updL_ne, updL_eq]); exact R.sg k hk }))
    have e221 : ∀ l : Int32, (l = 0 ∧ ¬ lateS c σ) ∨ (l = 1 ∧ lateS c σ) → ∃ s', f_X10_plays_b221 p ra s z l = some s' ∧ RM c (goS c σ) s' := by
      intro l hl
      have e1 : vp_updL s 22 (s 22 + (ra (rungNow c σ).toNat).toInt64) 1 = s 1 := by (try simp (disch := omega) only [updL_ne, updL_eq])
      have e6 : (6 * (0 : Int32).toInt + rungNow c σ).toNat = (rungNow c σ).toNat := by simp only [Int32.reduceToInt]; omega
      unfold f_X10_plays_b221
      rw [grd_n (by rw [tl]; omega), grd_v (by omega) (by omega), ein, m_rate (by decide) (by decide) (by omega) (by omega), erv, e6, obnd_some]
      simp only [bnd_p, e1]
      rcases hl with ⟨h1, h2⟩ | ⟨h1, h2⟩
      · rw [if_pos h1]
        exact ⟨_, rfl, fin _ (by rw [if_neg (fun o => h2 o.2)]; exact q1)⟩
      · rw [if_neg (by rw [h1]; exact one_z)]
        by_cases w : 2 ≤ smallS c σ
        · rw [if_neg (by rw [lt64, hz]; simp only [Int64.reduceToInt]; omega)]
          exact ⟨_, rfl, fin _ (by rw [if_pos ⟨w, h2⟩]; exact q2)⟩
        · rw [if_pos (by rw [lt64, hz]; simp only [Int64.reduceToInt]; omega)]
          exact ⟨_, rfl, fin _ (by rw [if_neg (fun o => w o.1)]; exact q1)⟩
    have no : ¬ lateS c σ → ∃ s', f_X10_plays_b220 p ra s z = some s' ∧ RM c (goS c σ) s' := fun h => e221 0 (Or.inl ⟨rfl, h⟩)
    have e1 : (s 0 + (p 13).toInt64).toInt = σ.time + c.v 13 := by rw [add64 (by rw [tl]; omega) (by rw [tl]; omega), tl, Rt, k13]
    have e2 : (s 0 + (p 13).toInt64 - s 1).toInt = σ.time + c.v 13 - σ.pos := by rw [sub64 (by omega) (by omega), e1, Rp]
    have er : (rm64 (s 0) 10).toInt = σ.time % 10 := by rw [rem64 (by omega) (by decide), Rt]; rfl
    by_cases u2 : 0 < c.v 13
    · rw [if_neg (by rw [le32, k13]; simp only [Int32.reduceToInt]; omega)]
      by_cases u3 : c.v 14 < σ.time + c.v 13 - σ.pos
      · rw [if_neg (by rw [le64, tl]; omega)]
        by_cases u4 : c.v 5 ≤ smallS c σ
        · rw [if_neg (by rw [lt64, tl]; omega)]
          by_cases u1 : σ.time % 10 = 0
          · rw [if_pos (by rw [eq64, er, u1]; rfl)]
            exact e221 1 (Or.inr ⟨rfl, u1, u2, u3, u4⟩)
          · rw [if_neg (by rw [eq64, er]; exact u1)]; exact no (fun o => u1 o.1)
        · rw [if_pos (by rw [lt64, tl]; omega)]; exact no (fun o => u4 o.2.2.2)
      · rw [if_pos (by rw [le64, tl]; omega)]; exact no (fun o => u3 o.2.2.1)
    · rw [if_pos (by rw [le32, k13]; simp only [Int32.reduceToInt]; omega)]; exact no (fun o => u2 o.2.1)
theorem m_plays {c : Cf} {σ : Ss} (W : WfC c) {T : Int} (S : WfS c T σ) (V : 1 ≤ c.vn) (hT : T + 1 ≤ 41000000) {p la ra : Nat → Int32} {ph : Int32} {ln fl : Nat → Int32} (K : CM c p la ra ph ln fl) {s : Nat → Int64} (R : RM c σ s) {th : Int32} : ∃ s', f_X10_plays la p ra s th = some s' ∧ RM c (playsS c th.toInt σ) s' := by
  obtain ⟨z, hz, ez⟩ := m_small W S K R
  have ea := m_all W S K R
  have b1 := S.k1
  have b2 := S.v1
  have b3 := S.a1
  have b4 := S.n1
  have m1 := W.m1
  have Rs := R.state
  have k4 := K.v 4 (by decide)
  have e2 : (2 : Int32).toNatClampNeg = 2 := rfl
  have R2 : ∀ x : Int64, x.toInt = σ.state → RM c σ (vp_updL s 2 x) := fun x hx => (RM.mk (h_time := by { (try simp (disch := omega) only [updL_ne, updL_eq]); exact R.time }) (h_pos := by { (try simp (disch := omega) only [updL_ne, updL_eq]); exact R.pos }) (h_state := by { (try simp (disch := omega) only [updL_ne, updL_eq]); exact hx }) (h_vs := by { (try simp (disch := omega) only [updL_ne, updL_eq]); exact R.vs }) (h_as := by { (try simp (disch := omega) only [updL_ne, updL_eq]); exact R.as }) (h_going := by { (try simp (disch := omega) only [updL_ne, updL_eq]); exact R.going }) (h_track := fun h => by { (try simp (disch := omega) only [updL_ne, updL_eq]); exact R.track h }) (h_seg := fun h => by { (try simp (disch := omega) only [updL_ne, updL_eq]); exact R.seg h }) (h_rung := fun h => by { (try simp (disch := omega) only [updL_ne, updL_eq]); exact R.rung h }) (h_wait := fun h => by { (try simp (disch := omega) only [updL_ne, updL_eq]); exact R.wait h }) (h_dur := fun h => by { (try simp (disch := omega) only [updL_ne, updL_eq]); exact R.dur h }) (h_got := fun h => by { (try simp (disch := omega) only [updL_ne, updL_eq]); exact R.got h }) (h_need := fun h => by { (try simp (disch := omega) only [updL_ne, updL_eq]); exact R.need h }) (h_last := by { (try simp (disch := omega) only [updL_ne, updL_eq]); exact R.last }) (h_chg := by { (try simp (disch := omega) only [updL_ne, updL_eq]); exact R.chg }) (h_su := by { (try simp (disch := omega) only [updL_ne, updL_eq]); exact R.su }) (h_st := by { (try simp (disch := omega) only [updL_ne, updL_eq]); exact R.st }) (h_pl := by { (try simp (disch := omega) only [updL_ne, updL_eq]); exact R.pl }) (h_stalls := by { (try simp (disch := omega) only [updL_ne, updL_eq]); exact R.stalls }) (h_aband := by { (try simp (disch := omega) only [updL_ne, updL_eq]); exact R.aband }) (h_fin := by { (try simp (disch := omega) only [updL_ne, updL_eq]); exact R.fin }) (h_wasted := by { (try simp (disch := omega) only [updL_ne, updL_eq]); exact R.wasted }) (h_qual := by { (try simp (disch := omega) only [updL_ne, updL_eq]); exact R.qual }) (h_len := by { (try simp (disch := omega) only [updL_ne, updL_eq]); exact R.len }) (h_kept := by { (try simp (disch := omega) only [updL_ne, updL_eq]); exact R.kept }) (h_bits := fun k hk => by { have hk : (k : Int) < σ.kept := hk; (try simp (disch := omega) only [updL_ne, updL_eq]); exact R.bits k hk }) (h_durs := fun k hk => by { have hk : (k : Int) < σ.kept := hk; (try simp (disch := omega) only [updL_ne, updL_eq]); exact R.durs k hk }) (h_va := fun k hk => by { have hk : (k : Int) < σ.vs := hk; (try simp (disch := omega) only [updL_ne, updL_eq]); exact R.va k hk }) (h_aa := fun k hk => by { have hk : (k : Int) < σ.as := hk; (try simp (disch := omega) only [updL_ne, updL_eq]); exact R.aa k hk }) (h_sg := fun k hk => by { have hk : (k : Int) < σ.len := hk; (try simp (disch := omega) only [updL_ne, updL_eq]); exact R.sg k hk }))
  have R3 : RM c (Ss.mk (σ.time) (σ.pos) (2) (σ.vs) (σ.as) (σ.going) (σ.track) (σ.seg) (σ.rung) (σ.wait) (σ.dur) (σ.got) (σ.need) (σ.last) (σ.chg) (σ.su) (σ.st) (σ.pl) (σ.stalls) (σ.aband) (σ.fin) (σ.sw) (σ.len) (σ.kept) (σ.wasted) (σ.qual) (σ.va) (σ.aa) (σ.sg) (σ.bits) (σ.durs)) (vp_updL s 2 2) := (RM.mk (h_time := by { (try simp (disch := omega) only [updL_ne, updL_eq]); exact R.time }) (h_pos := by { (try simp (disch := omega) only [updL_ne, updL_eq]); exact R.pos }) (h_state := by { (try simp (disch := omega) only [updL_ne, updL_eq]); rfl }) (h_vs := by { (try simp (disch := omega) only [updL_ne, updL_eq]); exact R.vs }) (h_as := by { (try simp (disch := omega) only [updL_ne, updL_eq]); exact R.as }) (h_going := by { (try simp (disch := omega) only [updL_ne, updL_eq]); exact R.going }) (h_track := fun h => by { (try simp (disch := omega) only [updL_ne, updL_eq]); exact R.track h }) (h_seg := fun h => by { (try simp (disch := omega) only [updL_ne, updL_eq]); exact R.seg h }) (h_rung := fun h => by { (try simp (disch := omega) only [updL_ne, updL_eq]); exact R.rung h }) (h_wait := fun h => by { (try simp (disch := omega) only [updL_ne, updL_eq]); exact R.wait h }) (h_dur := fun h => by { (try simp (disch := omega) only [updL_ne, updL_eq]); exact R.dur h }) (h_got := fun h => by { (try simp (disch := omega) only [updL_ne, updL_eq]); exact R.got h }) (h_need := fun h => by { (try simp (disch := omega) only [updL_ne, updL_eq]); exact R.need h }) (h_last := by { (try simp (disch := omega) only [updL_ne, updL_eq]); exact R.last }) (h_chg := by { (try simp (disch := omega) only [updL_ne, updL_eq]); exact R.chg }) (h_su := by { (try simp (disch := omega) only [updL_ne, updL_eq]); exact R.su }) (h_st := by { (try simp (disch := omega) only [updL_ne, updL_eq]); exact R.st }) (h_pl := by { (try simp (disch := omega) only [updL_ne, updL_eq]); exact R.pl }) (h_stalls := by { (try simp (disch := omega) only [updL_ne, updL_eq]); exact R.stalls }) (h_aband := by { (try simp (disch := omega) only [updL_ne, updL_eq]); exact R.aband }) (h_fin := by { (try simp (disch := omega) only [updL_ne, updL_eq]); exact R.fin }) (h_wasted := by { (try simp (disch := omega) only [updL_ne, updL_eq]); exact R.wasted }) (h_qual := by { (try simp (disch := omega) only [updL_ne, updL_eq]); exact R.qual }) (h_len := by { (try simp (disch := omega) only [updL_ne, updL_eq]); exact R.len }) (h_kept := by { (try simp (disch := omega) only [updL_ne, updL_eq]); exact R.kept }) (h_bits := fun k hk => by { have hk : (k : Int) < σ.kept := hk; (try simp (disch := omega) only [updL_ne, updL_eq]); exact R.bits k hk }) (h_durs := fun k hk => by { have hk : (k : Int) < σ.kept := hk; (try simp (disch := omega) only [updL_ne, updL_eq]); exact R.durs k hk }) (h_va := fun k hk => by { have hk : (k : Int) < σ.vs := hk; (try simp (disch := omega) only [updL_ne, updL_eq]); exact R.va k hk }) (h_aa := fun k hk => by { have hk : (k : Int) < σ.as := hk; (try simp (disch := omega) only [updL_ne, updL_eq]); exact R.aa k hk }) (h_sg := fun k hk => by { have hk : (k : Int) < σ.len := hk; (try simp (disch := omega) only [updL_ne, updL_eq]); exact R.sg k hk }))
  have stay : ¬ (σ.state = 2) → ∀ u, RM c σ u → f_X10_plays_b73 p ra u z = some u := by
    intro h u Ru
    unfold f_X10_plays_b73
    rw [if_neg (by rw [eq64, Ru.state]; exact h)]
  have start : readyS c th.toInt σ → ∃ s', f_X10_plays_b63 p ra s z 2 = some s' ∧ RM c (playsS c th.toInt σ) s' := by
    intro h
    have ep : playsS c th.toInt σ = playS c σ := by unfold playsS; rw [if_pos (Or.inr h)]
    unfold f_X10_plays_b63 f_X10_plays_b72
    rw [grd_v (by decide) (by decide), e2, ep]
    simp only [bnd_p]
    exact m_play W S V hT K R3 ez
  have nost : ¬ (σ.state = 2) → ¬ readyS c th.toInt σ → ∃ s', f_X10_plays_b72 p ra s z 2 (s 2) = some s' ∧ RM c (playsS c th.toInt σ) s' := by
    intro h0 h
    have ep : playsS c th.toInt σ = σ := by unfold playsS; rw [if_neg (fun o => o.elim h0 h)]
    unfold f_X10_plays_b72
    rw [grd_v (by decide) (by decide), e2, ep]
    simp only [bnd_p]
    exact ⟨_, stay h0 _ (R2 _ Rs), R2 _ Rs⟩
  unfold f_X10_plays
  rw [hz, obnd_some]
  by_cases s1 : σ.state = 1
  · rw [if_pos (by rw [eq64, Rs, s1]; rfl)]
    unfold f_X10_plays_b24 f_X10_plays_b44
    rw [if_pos (by rw [eq64, Rs, s1]; rfl), ea]
    by_cases q : th.toInt ≤ smallS c σ
    · rw [if_pos (by rw [le64, tl]; omega)]; exact start (Or.inl ⟨s1, Or.inl q⟩)
    · rw [if_neg (by rw [le64, tl]; omega)]
      by_cases a : allS c σ
      · rw [if_pos a, if_neg one_z]; exact start (Or.inl ⟨s1, Or.inr a⟩)
      · rw [if_neg a, if_pos rfl]; exact nost (by omega) (fun o => o.elim (fun w => w.2.elim q a) (fun w => by have := w.1; omega))
  · rw [if_neg (by rw [eq64, Rs]; exact s1)]
    by_cases s3 : σ.state = 3
    · rw [if_pos (by rw [eq64, Rs, s3]; rfl)]
      unfold f_X10_plays_b24 f_X10_plays_b44
      rw [if_neg (by rw [eq64, Rs]; exact s1), ea]
      by_cases q : c.v 4 ≤ smallS c σ
      · rw [if_pos (by rw [le64, tl]; omega)]; exact start (Or.inr ⟨s3, Or.inl q⟩)
      · rw [if_neg (by rw [le64, tl]; omega)]
        by_cases a : allS c σ
        · rw [if_pos a, if_neg one_z]; exact start (Or.inr ⟨s3, Or.inr a⟩)
        · rw [if_neg a, if_pos rfl]; exact nost (by omega) (fun o => o.elim (fun w => s1 w.1) (fun w => w.2.elim q a))
    · rw [if_neg (by rw [eq64, Rs]; exact s3)]
      by_cases s2 : σ.state = 2
      · have ep : playsS c th.toInt σ = playS c σ := by unfold playsS; rw [if_pos (Or.inl s2)]
        have R4 : RM c (Ss.mk (σ.time) (σ.pos) (2) (σ.vs) (σ.as) (σ.going) (σ.track) (σ.seg) (σ.rung) (σ.wait) (σ.dur) (σ.got) (σ.need) (σ.last) (σ.chg) (σ.su) (σ.st) (σ.pl) (σ.stalls) (σ.aband) (σ.fin) (σ.sw) (σ.len) (σ.kept) (σ.wasted) (σ.qual) (σ.va) (σ.aa) (σ.sg) (σ.bits) (σ.durs)) s := (RM.mk (h_time := by { exact R.time }) (h_pos := by { exact R.pos }) (h_state := Rs.trans s2) (h_vs := by { exact R.vs }) (h_as := by { exact R.as }) (h_going := by { exact R.going }) (h_track := fun h => by { exact R.track h }) (h_seg := fun h => by { exact R.seg h }) (h_rung := fun h => by { exact R.rung h }) (h_wait := fun h => by { exact R.wait h }) (h_dur := fun h => by { exact R.dur h }) (h_got := fun h => by { exact R.got h }) (h_need := fun h => by { exact R.need h }) (h_last := by { exact R.last }) (h_chg := by { exact R.chg }) (h_su := by { exact R.su }) (h_st := by { exact R.st }) (h_pl := by { exact R.pl }) (h_stalls := by { exact R.stalls }) (h_aband := by { exact R.aband }) (h_fin := by { exact R.fin }) (h_wasted := by { exact R.wasted }) (h_qual := by { exact R.qual }) (h_len := by { exact R.len }) (h_kept := by { exact R.kept }) (h_bits := fun k hk => by { have hk : (k : Int) < σ.kept := hk; exact R.bits k hk }) (h_durs := fun k hk => by { have hk : (k : Int) < σ.kept := hk; exact R.durs k hk }) (h_va := fun k hk => by { have hk : (k : Int) < σ.vs := hk; exact R.va k hk }) (h_aa := fun k hk => by { have hk : (k : Int) < σ.as := hk; exact R.aa k hk }) (h_sg := fun k hk => by { have hk : (k : Int) < σ.len := hk; exact R.sg k hk }))
        rw [ep]; exact m_play W S V hT K R4 ez
      · have ep : playsS c th.toInt σ = σ := by unfold playsS; rw [if_neg (fun o => o.elim s2 (fun w => w.elim (fun w => s1 w.1) (fun w => s3 w.1)))]
        rw [ep]; exact ⟨_, stay s2 _ R, R⟩
theorem m_tells {c : Cf} {σ : Ss} (W : WfC c) {T : Int} (S : WfS c T σ) (V : 1 ≤ c.vn) {p la ra : Nat → Int32} {ph : Int32} {ln fl : Nat → Int32} (K : CM c p la ra ph ln fl) {s : Nat → Int64} (R : RM c σ s) : ∃ s', f_X10_tells p s = some s' ∧ RM c (tellsS c σ) s' := by
  have t0 := S.t0
  have n0 := S.n0
  have n1 := S.n1
  have s0 := S.s0
  have s1' := S.s1
  have pv := S.pv
  have d0 := W.d0
  have m1 := W.m1
  have v1 := S.v1
  have a1 := S.a1
  have k1 := S.k1
  have vn1 := W.vn1
  have vD := WfS.vD W S
  have Rt := R.time
  have Rs := R.state
  have Rp := R.pos
  have Rl := R.len
  have k0 := K.v 0 (by decide)
  have er : (rm64 (s 0) 1000).toInt = σ.time % 1000 := by rw [rem64 (by omega) (by decide), Rt]; rfl
  unfold f_X10_tells
  by_cases h : σ.time % 1000 = 0
  · rw [if_pos (by rw [eq64, er, h]; rfl)]
    by_cases g : σ.len < 300
    · have esp : tellsS c σ = (Ss.mk (σ.time) (σ.pos) (σ.state) (σ.vs) (σ.as) (σ.going) (σ.track) (σ.seg) (σ.rung) (σ.wait) (σ.dur) (σ.got) (σ.need) (σ.last) (σ.chg) (σ.su) (σ.st) (σ.pl) (σ.stalls) (σ.aband) (σ.fin) (σ.sw) (σ.len + 1) (σ.kept) (σ.wasted) (σ.qual) (σ.va) (σ.aa) (updI σ.sg σ.len.toNat (signS c σ)) (σ.bits) (σ.durs)) := by unfold tellsS; rw [if_pos ⟨h, g⟩]
      rw [if_neg (by rw [eq64, Rl]; simp only [Int64.reduceToInt]; omega), esp]
      have tl32 : (s 23).toInt32.toInt = σ.len := by rw [ti (by omega) (by omega), Rl]
      have e450 : (450 + (s 23).toInt32).toInt = 450 + σ.len := by rw [add32 (by simp only [Int32.reduceToInt]; omega) (by simp only [Int32.reduceToInt]; omega), tl32]; rfl
      have n450 : (450 + (s 23).toInt32).toNatClampNeg = 450 + σ.len.toNat := by rw [tn, e450]; omega
      have x23 : ∀ x : Int64, vp_updL s (450 + σ.len.toNat) x 23 = s 23 := fun x => by (try simp (disch := omega) only [updL_ne, updL_eq])
      have e23 : (s 23 + 1).toInt = σ.len + 1 := by rw [add64 (by simp only [Int64.reduceToInt]; omega) (by simp only [Int64.reduceToInt]; omega), Rl]; rfl
      have fin : ∀ x : Int64, x.toInt = signS c σ → RM c (Ss.mk (σ.time) (σ.pos) (σ.state) (σ.vs) (σ.as) (σ.going) (σ.track) (σ.seg) (σ.rung) (σ.wait) (σ.dur) (σ.got) (σ.need) (σ.last) (σ.chg) (σ.su) (σ.st) (σ.pl) (σ.stalls) (σ.aband) (σ.fin) (σ.sw) (σ.len + 1) (σ.kept) (σ.wasted) (σ.qual) (σ.va) (σ.aa) (updI σ.sg σ.len.toNat (signS c σ)) (σ.bits) (σ.durs)) (vp_updL (vp_updL s (450 + σ.len.toNat) x) 23 (s 23 + 1)) := fun x hx =>
        (RM.mk (h_time := by { (try simp (disch := omega) only [updL_ne, updL_eq]); exact R.time }) (h_pos := by { (try simp (disch := omega) only [updL_ne, updL_eq]); exact R.pos }) (h_state := by { (try simp (disch := omega) only [updL_ne, updL_eq]); exact R.state }) (h_vs := by { (try simp (disch := omega) only [updL_ne, updL_eq]); exact R.vs }) (h_as := by { (try simp (disch := omega) only [updL_ne, updL_eq]); exact R.as }) (h_going := by { (try simp (disch := omega) only [updL_ne, updL_eq]); exact R.going }) (h_track := fun h => by { (try simp (disch := omega) only [updL_ne, updL_eq]); exact R.track h }) (h_seg := fun h => by { (try simp (disch := omega) only [updL_ne, updL_eq]); exact R.seg h }) (h_rung := fun h => by { (try simp (disch := omega) only [updL_ne, updL_eq]); exact R.rung h }) (h_wait := fun h => by { (try simp (disch := omega) only [updL_ne, updL_eq]); exact R.wait h }) (h_dur := fun h => by { (try simp (disch := omega) only [updL_ne, updL_eq]); exact R.dur h }) (h_got := fun h => by { (try simp (disch := omega) only [updL_ne, updL_eq]); exact R.got h }) (h_need := fun h => by { (try simp (disch := omega) only [updL_ne, updL_eq]); exact R.need h }) (h_last := by { (try simp (disch := omega) only [updL_ne, updL_eq]); exact R.last }) (h_chg := by { (try simp (disch := omega) only [updL_ne, updL_eq]); exact R.chg }) (h_su := by { (try simp (disch := omega) only [updL_ne, updL_eq]); exact R.su }) (h_st := by { (try simp (disch := omega) only [updL_ne, updL_eq]); exact R.st }) (h_pl := by { (try simp (disch := omega) only [updL_ne, updL_eq]); exact R.pl }) (h_stalls := by { (try simp (disch := omega) only [updL_ne, updL_eq]); exact R.stalls }) (h_aband := by { (try simp (disch := omega) only [updL_ne, updL_eq]); exact R.aband }) (h_fin := by { (try simp (disch := omega) only [updL_ne, updL_eq]); exact R.fin }) (h_wasted := by { (try simp (disch := omega) only [updL_ne, updL_eq]); exact R.wasted }) (h_qual := by { (try simp (disch := omega) only [updL_ne, updL_eq]); exact R.qual }) (h_len := by { (try simp (disch := omega) only [updL_ne, updL_eq]); exact e23 }) (h_kept := by { (try simp (disch := omega) only [updL_ne, updL_eq]); exact R.kept }) (h_bits := fun k hk => by { have hk : (k : Int) < σ.kept := hk; (try simp (disch := omega) only [updL_ne, updL_eq]); exact R.bits k hk }) (h_durs := fun k hk => by { have hk : (k : Int) < σ.kept := hk; (try simp (disch := omega) only [updL_ne, updL_eq]); exact R.durs k hk }) (h_va := fun k hk => by { have hk : (k : Int) < σ.vs := hk; (try simp (disch := omega) only [updL_ne, updL_eq]); exact R.va k hk }) (h_aa := fun k hk => by { have hk : (k : Int) < σ.as := hk; (try simp (disch := omega) only [updL_ne, updL_eq]); exact R.aa k hk }) (h_sg := fun k hk => by { have hk : (k : Int) < σ.len + 1 := hk; show _ = updI σ.sg σ.len.toNat (signS c σ) k; rw [updL_ne (by omega)]; unfold updI; by_cases e : k = σ.len.toNat; · { rw [if_pos e, e, updL_eq]; exact hx }; · { rw [if_neg e, updL_ne (by omega)]; exact R.sg k (by omega) } }))
      have put : ∀ x : Int64, ¬ (σ.state = 2) → x.toInt = signS c σ → ∃ s', f_X10_tells_b57 p s (s 2) x = some s' ∧ RM c (Ss.mk (σ.time) (σ.pos) (σ.state) (σ.vs) (σ.as) (σ.going) (σ.track) (σ.seg) (σ.rung) (σ.wait) (σ.dur) (σ.got) (σ.need) (σ.last) (σ.chg) (σ.su) (σ.st) (σ.pl) (σ.stalls) (σ.aband) (σ.fin) (σ.sw) (σ.len + 1) (σ.kept) (σ.wasted) (σ.qual) (σ.va) (σ.aa) (updI σ.sg σ.len.toNat (signS c σ)) (σ.bits) (σ.durs)) s' := by
        intro x h2 hx
        unfold f_X10_tells_b57
        rw [if_neg (by rw [eq64, Rs]; exact h2), grd_v (by omega) (by omega), n450]
        simp only [bnd_p, x23]
        exact ⟨_, rfl, fin x hx⟩
      by_cases g1 : σ.state = 1
      · rw [if_pos (by rw [eq64, Rs, g1]; rfl)]
        exact put _ (by omega) (by unfold signS; rw [if_pos g1]; rfl)
      · rw [if_neg (by rw [eq64, Rs]; exact g1)]
        by_cases g3 : σ.state = 3
        · rw [if_pos (by rw [eq64, Rs, g3]; rfl)]
          exact put _ (by omega) (by unfold signS; rw [if_neg g1, if_neg (by omega), if_pos g3]; rfl)
        · rw [if_neg (by rw [eq64, Rs]; exact g3)]
          by_cases g2 : σ.state = 2
          · have p2 := S.p2 g2
            have sn := seg_now W S (q := σ.pos - 1) (by omega) (by omega)
            have vb := S.va ((σ.pos - 1) / c.v 0).toNat (by omega)
            have ep : (s 1 - 1).toInt = σ.pos - 1 := by rw [sub64 (by simp only [Int64.reduceToInt]; omega) (by simp only [Int64.reduceToInt]; omega), Rp]; rfl
            have ed : ((s 1 - 1) / (p 0).toInt64).toInt = (σ.pos - 1) / c.v 0 := by rw [div64 (by omega) (by rw [tl]; omega), tl, ep, k0]
            have edi : ((s 1 - 1) / (p 0).toInt64).toInt32.toInt = (σ.pos - 1) / c.v 0 := by rw [ti (by omega) (by omega), ed]
            have ei : (50 + ((s 1 - 1) / (p 0).toInt64).toInt32).toInt = 50 + (σ.pos - 1) / c.v 0 := by rw [add32 (by simp only [Int32.reduceToInt]; omega) (by simp only [Int32.reduceToInt]; omega), edi]; rfl
            have ein : (50 + ((s 1 - 1) / (p 0).toInt64).toInt32).toNatClampNeg = 50 + ((σ.pos - 1) / c.v 0).toNat := by rw [tn, ei]; omega
            have erv : (s (50 + ((σ.pos - 1) / c.v 0).toNat)).toInt = σ.va ((σ.pos - 1) / c.v 0).toNat := R.va _ (by omega)
            have ea : (48 + s (50 + ((σ.pos - 1) / c.v 0).toNat)).toInt = signS c σ := by
              unfold signS; rw [if_neg g1, if_pos g2, add64 (by simp only [Int64.reduceToInt]; omega) (by simp only [Int64.reduceToInt]; omega), erv]; rfl
            unfold f_X10_tells_b57
            rw [if_pos (by rw [eq64, Rs, g2]; rfl), grd_n (by rw [tl]; omega), grd_v (by omega) (by omega), ein]
            simp only [bnd_p]
            rw [grd_v (by omega) (by omega), n450, x23]
            exact ⟨_, rfl, fin _ ea⟩
          · exact put _ g2 (by unfold signS; rw [if_neg g1, if_neg g2, if_neg g3]; rfl)
    · have esp : tellsS c σ = σ := by unfold tellsS; rw [if_neg (fun o => g o.2)]
      rw [if_pos (by rw [eq64, Rl]; simp only [Int64.reduceToInt]; omega), esp]; exact ⟨_, rfl, R⟩
  · have esp : tellsS c σ = σ := by unfold tellsS; rw [if_neg (fun o => h o.1)]
    rw [if_neg (by rw [eq64, er]; exact h), esp]; exact ⟨_, rfl, R⟩
