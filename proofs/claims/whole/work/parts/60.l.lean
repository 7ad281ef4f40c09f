/-! the reference's side -/
theorem updL_ne {f : Nat → Int64} {k j : Nat} {x : Int64} (h : j ≠ k) : vp_updL f k x j = f j := by unfold vp_updL; rw [if_neg h]
theorem updL_eq {f : Nat → Int64} {k : Nat} {x : Int64} : vp_updL f k x k = x := by unfold vp_updL; rw [if_pos rfl]
theorem m_buf0 {c : Cf} {σ : Ss} (W : WfC c) {T : Int} (S : WfS c T σ) {p la ra : Nat → Int32} {ph : Int32} {ln fl : Nat → Int32} (K : CM c p la ra ph ln fl) {s : Nat → Int64} (R : RM c σ s) : ∃ z, f_X10_bufferOf p s 0 = some z ∧ z.toInt = bufV c σ := by
  have m := WfS.vD W S
  have p0 := S.p0
  have pv := S.pv
  have e3 : ((3 : Int32) + 0).toNatClampNeg = 3 := rfl
  have em : (s 3 * (p 0).toInt64).toInt = σ.vs * c.v 0 := by rw [mul64 (by rw [tl, R.vs, K.v 0 (by decide)]; omega) (by rw [tl, R.vs, K.v 0 (by decide)]; omega), tl, R.vs, K.v 0 (by decide)]
  have Rp := R.pos
  unfold f_X10_bufferOf
  rw [grd_v (by decide) (by decide), e3]
  refine ⟨_, rfl, ?_⟩
  rw [sub64 (by omega) (by omega), em, Rp]; rfl
theorem m_buf1 {c : Cf} {σ : Ss} (W : WfC c) {T : Int} (S : WfS c T σ) {p la ra : Nat → Int32} {ph : Int32} {ln fl : Nat → Int32} (K : CM c p la ra ph ln fl) {s : Nat → Int64} (R : RM c σ s) : ∃ z, f_X10_bufferOf p s 1 = some z ∧ z.toInt = bufA c σ := by
  have m := WfS.aD W S
  have mv := WfS.vD W S
  have p0 := S.p0
  have pv := S.pv
  have e3 : ((3 : Int32) + 1).toNatClampNeg = 4 := rfl
  have em : (s 4 * (p 0).toInt64).toInt = σ.as * c.v 0 := by rw [mul64 (by rw [tl, R.as, K.v 0 (by decide)]; omega) (by rw [tl, R.as, K.v 0 (by decide)]; omega), tl, R.as, K.v 0 (by decide)]
  have Rp := R.pos
  unfold f_X10_bufferOf
  rw [grd_v (by decide) (by decide), e3]
  refine ⟨_, rfl, ?_⟩
  rw [sub64 (by omega) (by omega), em, Rp]; rfl
theorem m_small {c : Cf} {σ : Ss} (W : WfC c) {T : Int} (S : WfS c T σ) {p la ra : Nat → Int32} {ph : Int32} {ln fl : Nat → Int32} (K : CM c p la ra ph ln fl) {s : Nat → Int64} (R : RM c σ s) : ∃ z, f_X10_bufferIn la p s = some z ∧ z.toInt = smallS c σ := by
  obtain ⟨a, ha, ea⟩ := m_buf0 W S K R
  obtain ⟨b, hb, eb⟩ := m_buf1 W S K R
  have han := K.an
  unfold f_X10_bufferIn smallS
  simp only [ha, hb, obnd_some]
  by_cases h : c.an ≤ 0
  · rw [if_pos (by rw [le32, han]; exact h), if_pos h]
    split <;> exact ⟨_, rfl, ea⟩
  · rw [if_neg (by rw [le32, han]; exact h), if_neg h]
    by_cases q : bufA c σ ≤ bufV c σ
    · rw [if_pos (by rw [le64]; omega)]; exact ⟨_, rfl, by omega⟩
    · rw [if_neg (by rw [le64]; omega)]; exact ⟨_, rfl, by omega⟩
theorem m_by {c : Cf} {σ : Ss} (W : WfC c) {T : Int} (S : WfS c T σ) (V : 1 ≤ c.vn) {p la ra : Nat → Int32} {ph : Int32} {ln fl : Nat → Int32} (K : CM c p la ra ph ln fl) {s : Nat → Int64} (R : RM c σ s) : ∃ z, f_X10_byBuffer la p s = some z ∧ z.toInt = byS c (bufV c σ) := by
  obtain ⟨a, ha, ea⟩ := m_buf0 W S K R
  have bb := (buf_b W S).1
  have h5 := K.v 5 (by decide)
  have h6 := K.v 6 (by decide)
  have b := byS_b W V (b := bufV c σ)
  have w5 := W.a5
  have w6 := W.b6
  have n1 := W.vn1
  have Kn := K.vn
  have en : ((la 0).toInt64 - 1).toInt = c.vn - 1 := by rw [sub64 (by rw [tl]; simp only [Int64.reduceToInt]; omega) (by rw [tl]; simp only [Int64.reduceToInt]; omega), tl, Kn]; rfl
  unfold f_X10_byBuffer
  rw [ha, obnd_some]
  by_cases q5 : bufV c σ < c.v 5
  · rw [if_neg (by rw [le64, tl]; omega)]
    refine ⟨_, rfl, ?_⟩
    unfold byS; rw [if_pos q5]; rfl
  · rw [if_pos (by rw [le64, tl]; omega)]
    by_cases q6 : c.v 6 ≤ bufV c σ
    · rw [if_neg (by rw [lt64, tl]; omega)]
      refine ⟨_, rfl, ?_⟩
      unfold byS; rw [if_neg q5, if_pos q6, en]
    · have := b.2 (by omega) (by omega)
      have e65 : (p 6 - p 5).toInt64.toInt = c.v 6 - c.v 5 := by rw [tl, sub32 (by omega) (by omega), h5, h6]
      have eb5 : (a - (p 5).toInt64).toInt = bufV c σ - c.v 5 := by rw [sub64 (by rw [tl]; omega) (by rw [tl]; omega), tl, h5, ea]
      have em : (((la 0).toInt64 - 1) * (a - (p 5).toInt64)).toInt = (c.vn - 1) * (bufV c σ - c.v 5) := by
        rw [mul64 (by rw [en, eb5]; omega) (by rw [en, eb5]; omega), en, eb5]
      rw [if_pos (by rw [lt64, tl]; omega), grd_n (by omega)]
      refine ⟨_, rfl, ?_⟩
      rw [div64 (by omega) (by omega), em, e65]
      unfold byS; rw [if_neg q5, if_neg q6]
theorem m_borV {c : Cf} {σ : Ss} (W : WfC c) {T : Int} (S : WfS c T σ) (V : 1 ≤ c.vn) {p la ra : Nat → Int32} {ph : Int32} {ln fl : Nat → Int32} (K : CM c p la ra ph ln fl) {s : Nat → Int64} (R : RM c σ s) : ∃ z, f_X10_borne la p ra s 0 100 = some z ∧ z.toInt = bor c.vr 100 (lim c σ) c.vn.toNat := by
  obtain ⟨n1, n2, n3, n4⟩ := nSm_i W S
  have a9 := W.a9
  have b9 := W.b9
  have e9 := K.v 9 (by decide)
  have e8 := K.v 8 (by decide)
  have vn1 := W.vn1
  have Kn := K.vn
  have er : ∀ k : Nat, (k : Int) < c.vn → (ra (6 * (0 : Int32).toInt + (k : Int)).toNat).toInt = c.vr k := fun k q => by
    have e : (6 * (0 : Int32).toInt + (k : Int)).toNat = k := by simp only [Int32.reduceToInt]; omega
    rw [e]; exact K.vr k q
  obtain ⟨z, hz, ez⟩ := m_borne (r0 := s) (p := p) (la := la) (ra := ra) (p1 := 0) (fac := 100) (f := c.vr) (N := c.vn.toNat) (by rw [R.kept, e8]; exact n1) n2 n3 (fun k q => R.bits k (by omega)) (fun k q => R.durs k (by omega)) (by omega) (by omega) (by decide) (by decide)
    (by show (la 0).toInt = _; omega) (by omega) (fun k q => ⟨er k (by omega), by have := W.vr0 k (by omega); omega, (W.vr0 k (by omega)).2⟩) (by decide) (by decide)
  exact ⟨z, hz, by rw [ez, e9]; rfl⟩
theorem m_borA {c : Cf} {σ : Ss} (W : WfC c) {T : Int} (S : WfS c T σ) {p la ra : Nat → Int32} {ph : Int32} {ln fl : Nat → Int32} (K : CM c p la ra ph ln fl) {s : Nat → Int64} (R : RM c σ s) : ∃ z, f_X10_borne la p ra s 1 500 = some z ∧ z.toInt = bor c.ar 500 (lim c σ) c.an.toNat := by
  obtain ⟨n1, n2, n3, n4⟩ := nSm_i W S
  have a9 := W.a9
  have b9 := W.b9
  have e9 := K.v 9 (by decide)
  have e8 := K.v 8 (by decide)
  have an0 := W.an0
  have an1 := W.an1
  have Kn := K.an
  have er : ∀ k : Nat, (k : Int) < c.an → (ra (6 * (1 : Int32).toInt + (k : Int)).toNat).toInt = c.ar k := fun k q => by
    have e : (6 * (1 : Int32).toInt + (k : Int)).toNat = 6 + k := by simp only [Int32.reduceToInt]; omega
    rw [e]; exact K.ar k q
  obtain ⟨z, hz, ez⟩ := m_borne (r0 := s) (p := p) (la := la) (ra := ra) (p1 := 1) (fac := 500) (f := c.ar) (N := c.an.toNat) (by rw [R.kept, e8]; exact n1) n2 n3 (fun k q => R.bits k (by omega)) (fun k q => R.durs k (by omega)) (by omega) (by omega) (by decide) (by decide)
    (by show (la 1).toInt = _; omega) (by omega) (fun k q => ⟨er k (by omega), by have := W.ar0 k (by omega); omega, (W.ar0 k (by omega)).2⟩) (by decide) (by decide)
  exact ⟨z, hz, by rw [ez, e9]; rfl⟩
theorem m_chosen {c : Cf} {σ : Ss} (W : WfC c) {T : Int} (S : WfS c T σ) (V : 1 ≤ c.vn) {p la ra : Nat → Int32} {ph : Int32} {ln fl : Nat → Int32} (K : CM c p la ra ph ln fl) {s : Nat → Int64} (R : RM c σ s) {mode : Int32} : ∃ z, f_X10_chosen la p ra s mode = some z ∧ z.toInt = chosenS c σ mode.toInt := by
  obtain ⟨a, ha, ea⟩ := m_borV W S V K R
  obtain ⟨b, hb, eb⟩ := m_by W S V K R
  have l0 := S.l0
  have l1 := S.l1
  have c0 := S.c0
  have c1 := S.c1
  have t1 := S.t1
  have n1 := W.vn1
  have Rl := R.last
  have Rt := R.time
  have Rc := R.chg
  have k10 := K.v 10 (by decide)
  have ed : (s 0 - s 14).toInt = σ.time - σ.chg := by rw [sub64 (by omega) (by omega), Rt, Rc]
  have up : ∀ s0 : Int64, ∃ z, f_X10_chosen_b59 p s s0 = some z ∧ z.toInt = stepUp c σ s0.toInt := by
    intro s0
    unfold f_X10_chosen_b59 stepUp
    by_cases q : s0.toInt ≤ σ.last
    · rw [if_neg (by rw [lt64]; omega), if_pos q]; exact ⟨_, rfl, rfl⟩
    · rw [if_pos (by rw [lt64]; omega), if_neg q]
      by_cases q2 : c.v 10 ≤ σ.time - σ.chg
      · rw [if_neg (by rw [lt64, tl]; omega), if_pos q2]
        refine ⟨_, rfl, ?_⟩
        rw [add64 (by simp only [Int64.reduceToInt]; omega) (by simp only [Int64.reduceToInt]; omega), Rl]; rfl
      · rw [if_pos (by rw [lt64, tl]; omega), if_neg q2]; exact ⟨_, rfl, Rl⟩
  unfold f_X10_chosen chosenS
  by_cases q : σ.last < 0
  · rw [if_neg (by rw [le64]; simp only [Int64.reduceToInt]; omega), if_pos q]; exact ⟨_, rfl, rfl⟩
  · rw [if_pos (by rw [le64]; simp only [Int64.reduceToInt]; omega), if_neg q]
    simp only [ha, hb, obnd_some]
    unfold bestS
    by_cases m0 : mode.toInt = 0
    · rw [if_pos (by rw [eq32]; exact m0), if_pos m0]
      obtain ⟨z, hz, ez⟩ := up a
      exact ⟨z, hz, by rw [ez, ea]⟩
    · rw [if_neg (by rw [eq32]; exact m0), if_neg m0]
      by_cases m1 : mode.toInt = 1
      · rw [if_pos (by rw [eq32]; exact m1), if_pos m1]
        obtain ⟨z, hz, ez⟩ := up b
        exact ⟨z, hz, by rw [ez, eb]⟩
      · rw [if_neg (by rw [eq32]; exact m1), if_neg m1]
        by_cases w : b.toInt ≤ a.toInt
        · rw [if_pos (by rw [le64]; exact w)]
          obtain ⟨z, hz, ez⟩ := up b
          refine ⟨z, hz, ?_⟩
          rw [ez, eb]; congr 1; omega
        · rw [if_neg (by rw [le64]; exact w)]
          obtain ⟨z, hz, ez⟩ := up a
          refine ⟨z, hz, ?_⟩
          rw [ez, ea]; congr 1; omega
theorem m_begins {c : Cf} {σ : Ss} (W : WfC c) {T : Int} (S : WfS c T σ) {p la ra : Nat → Int32} {ph : Int32} {ln fl : Nat → Int32} (K : CM c p la ra ph ln fl) {s : Nat → Int64} (R : RM c σ s) {p1 : Int32} {p2 p3 : Int64} (ht : p1.toInt = 0 ∨ p1.toInt = 1) (s0 : 0 ≤ p2.toInt) (s1 : p2.toInt < 200) (h0 : 0 ≤ p3.toInt) (h1 : p3.toInt < if p1.toInt = 0 then c.vn else c.an) :
    ∃ s', f_X10_begins p ra s p1 p2 p3 = some s' ∧ RM c (beginsS c σ p1.toInt p2.toInt p3.toInt) s' := by
  have rb := rateS_b W h0 h1
  have vn1 := W.vn1
  have an1 := W.an1
  have k1 := S.k1
  have v1 := S.v1
  have a1 := S.a1
  have n1 := S.n1
  have m1 := W.m1
  have hlt : p3.toInt < 6 := by split at h1 <;> omega
  have er : (ra (6 * p1.toInt + p3.toInt).toNat).toInt = rateS c p1.toInt p3.toInt := by
    unfold rateS
    rcases ht with e | e
    · rw [if_pos e] at h1 ⊢
      have : (6 * p1.toInt + p3.toInt).toNat = p3.toInt.toNat := by omega
      rw [this]; exact K.vr _ (by omega)
    · rw [if_neg (by omega)] at h1 ⊢
      have : (6 * p1.toInt + p3.toInt).toNat = 6 + p3.toInt.toNat := by omega
      rw [this]; exact K.ar _ (by omega)
  obtain ⟨z, hz, ez⟩ := m_size W (p := p) (ra := ra) (p0 := p1) (p1 := p3) (p2 := p2) (K.v 0 (by decide)) er rb.1 rb.2 (by omega) (by omega) h0 hlt s0 s1
  have k2 := K.v 2 (by decide)
  have Rl := R.last
  have Rc := R.chg
  have Rt := R.time
  unfold f_X10_begins
  simp only [bnd, hz, obnd_some]
  have FV : ∀ chg' : Int64, p1.toInt = 0 → chg'.toInt = (if 0 ≤ σ.last ∧ σ.last ≠ p3.toInt then σ.time else σ.chg) → RM c (beginsS c σ p1.toInt p2.toInt p3.toInt) (vp_updL (vp_updL (vp_updL (vp_updL (vp_updL (vp_updL (vp_updL (vp_updL (vp_updL (vp_updL s 5 1) 6 p1.toInt64) 7 p2) 8 p3) 9 ((p 2).toInt64)) 10 0) 11 0) 12 z) 14 chg') 13 p3) := fun chg' ht0 hc =>
    (RM.mk (h_time := by { (try simp (disch := omega) only [updL_ne, updL_eq]); exact R.time }) (h_pos := by { (try simp (disch := omega) only [updL_ne, updL_eq]); exact R.pos }) (h_state := by { (try simp (disch := omega) only [updL_ne, updL_eq]); exact R.state }) (h_vs := by { (try simp (disch := omega) only [updL_ne, updL_eq]); exact R.vs }) (h_as := by { (try simp (disch := omega) only [updL_ne, updL_eq]); exact R.as }) (h_going := by { (try simp (disch := omega) only [updL_ne, updL_eq]); rfl }) (h_track := fun _ => by { (try simp (disch := omega) only [updL_ne, updL_eq]); exact tl }) (h_seg := fun _ => by { (try simp (disch := omega) only [updL_ne, updL_eq]); rfl }) (h_rung := fun _ => by { (try simp (disch := omega) only [updL_ne, updL_eq]); rfl }) (h_wait := fun _ => by { (try simp (disch := omega) only [updL_ne, updL_eq]); rw [tl]; exact k2 }) (h_dur := fun _ => by { (try simp (disch := omega) only [updL_ne, updL_eq]); rfl }) (h_got := fun _ => by { (try simp (disch := omega) only [updL_ne, updL_eq]); rfl }) (h_need := fun _ => by { (try simp (disch := omega) only [updL_ne, updL_eq]); exact ez }) (h_last := by { (try simp (disch := omega) only [updL_ne, updL_eq]); show _ = (if p1.toInt = 0 then p3.toInt else σ.last); rw [if_pos ht0] }) (h_chg := by { (try simp (disch := omega) only [updL_ne, updL_eq]); show _ = (if p1.toInt = 0 then (if 0 ≤ σ.last ∧ σ.last ≠ p3.toInt then σ.time else σ.chg) else σ.chg); rw [if_pos ht0]; exact hc }) (h_su := by { (try simp (disch := omega) only [updL_ne, updL_eq]); exact R.su }) (h_st := by { (try simp (disch := omega) only [updL_ne, updL_eq]); exact R.st }) (h_pl := by { (try simp (disch := omega) only [updL_ne, updL_eq]); exact R.pl }) (h_stalls := by { (try simp (disch := omega) only [updL_ne, updL_eq]); exact R.stalls }) (h_aband := by { (try simp (disch := omega) only [updL_ne, updL_eq]); exact R.aband }) (h_fin := by { (try simp (disch := omega) only [updL_ne, updL_eq]); exact R.fin }) (h_wasted := by { (try simp (disch := omega) only [updL_ne, updL_eq]); exact R.wasted }) (h_qual := by { (try simp (disch := omega) only [updL_ne, updL_eq]); exact R.qual }) (h_len := by { (try simp (disch := omega) only [updL_ne, updL_eq]); exact R.len }) (h_kept := by { (try simp (disch := omega) only [updL_ne, updL_eq]); exact R.kept }) (h_bits := fun k hk => by { have hk : (k : Int) < σ.kept := hk; (try simp (disch := omega) only [updL_ne, updL_eq]); exact R.bits k hk }) (h_durs := fun k hk => by { have hk : (k : Int) < σ.kept := hk; (try simp (disch := omega) only [updL_ne, updL_eq]); exact R.durs k hk }) (h_va := fun k hk => by { have hk : (k : Int) < σ.vs := hk; (try simp (disch := omega) only [updL_ne, updL_eq]); exact R.va k hk }) (h_aa := fun k hk => by { have hk : (k : Int) < σ.as := hk; (try simp (disch := omega) only [updL_ne, updL_eq]); exact R.aa k hk }) (h_sg := fun k hk => by { have hk : (k : Int) < σ.len := hk; (try simp (disch := omega) only [updL_ne, updL_eq]); exact R.sg k hk }))
  rcases ht with e | e
  · rw [if_pos (by rw [eq32]; exact e)]
    have e13 : (vp_updL (vp_updL (vp_updL (vp_updL (vp_updL (vp_updL (vp_updL (vp_updL s 5 1) 6 p1.toInt64) 7 p2) 8 p3) 9 ((p 2).toInt64)) 10 0) 11 0) 12 z) 13 = s 13 := by (try simp (disch := omega) only [updL_ne, updL_eq])
    have e14 : (vp_updL (vp_updL (vp_updL (vp_updL (vp_updL (vp_updL (vp_updL (vp_updL s 5 1) 6 p1.toInt64) 7 p2) 8 p3) 9 ((p 2).toInt64)) 10 0) 11 0) 12 z) 14 = s 14 := by (try simp (disch := omega) only [updL_ne, updL_eq])
    have e00 : (vp_updL (vp_updL (vp_updL (vp_updL (vp_updL (vp_updL (vp_updL (vp_updL s 5 1) 6 p1.toInt64) 7 p2) 8 p3) 9 ((p 2).toInt64)) 10 0) 11 0) 12 z) 0 = s 0 := by (try simp (disch := omega) only [updL_ne, updL_eq])
    rw [e13, e14, e00]
    by_cases q : σ.last < 0
    · rw [if_pos (by rw [lt64, Rl]; exact q)]
      exact ⟨_, rfl, FV _ e (by rw [if_neg (by omega)]; exact Rc)⟩
    · rw [if_neg (by rw [lt64, Rl]; exact q)]
      by_cases q2 : σ.last = p3.toInt
      · rw [if_pos (by rw [eq64, Rl]; exact q2)]
        exact ⟨_, rfl, FV _ e (by rw [if_neg (by omega)]; exact Rc)⟩
      · rw [if_neg (by rw [eq64, Rl]; exact q2)]
        exact ⟨_, rfl, FV _ e (by rw [if_pos (by omega)]; exact Rt)⟩
  · rw [if_neg (by rw [eq32]; simp only [Int32.reduceToInt]; omega)]
    refine ⟨_, rfl, (RM.mk (h_time := by { (try simp (disch := omega) only [updL_ne, updL_eq]); exact R.time }) (h_pos := by { (try simp (disch := omega) only [updL_ne, updL_eq]); exact R.pos }) (h_state := by { (try simp (disch := omega) only [updL_ne, updL_eq]); exact R.state }) (h_vs := by { (try simp (disch := omega) only [updL_ne, updL_eq]); exact R.vs }) (h_as := by { (try simp (disch := omega) only [updL_ne, updL_eq]); exact R.as }) (h_going := by { (try simp (disch := omega) only [updL_ne, updL_eq]); rfl }) (h_track := fun _ => by { (try simp (disch := omega) only [updL_ne, updL_eq]); exact tl }) (h_seg := fun _ => by { (try simp (disch := omega) only [updL_ne, updL_eq]); rfl }) (h_rung := fun _ => by { (try simp (disch := omega) only [updL_ne, updL_eq]); rfl }) (h_wait := fun _ => by { (try simp (disch := omega) only [updL_ne, updL_eq]); rw [tl]; exact k2 }) (h_dur := fun _ => by { (try simp (disch := omega) only [updL_ne, updL_eq]); rfl }) (h_got := fun _ => by { (try simp (disch := omega) only [updL_ne, updL_eq]); rfl }) (h_need := fun _ => by { (try simp (disch := omega) only [updL_ne, updL_eq]); exact ez }) (h_last := by { (try simp (disch := omega) only [updL_ne, updL_eq]); show _ = (if p1.toInt = 0 then p3.toInt else σ.last); rw [if_neg (by omega)]; exact Rl }) (h_chg := by { (try simp (disch := omega) only [updL_ne, updL_eq]); show _ = (if p1.toInt = 0 then (if 0 ≤ σ.last ∧ σ.last ≠ p3.toInt then σ.time else σ.chg) else σ.chg); rw [if_neg (by omega)]; exact Rc }) (h_su := by { (try simp (disch := omega) only [updL_ne, updL_eq]); exact R.su }) (h_st := by { (try simp (disch := omega) only [updL_ne, updL_eq]); exact R.st }) (h_pl := by { (try simp (disch := omega) only [updL_ne, updL_eq]); exact R.pl }) (h_stalls := by { (try simp (disch := omega) only [updL_ne, updL_eq]); exact R.stalls }) (h_aband := by { (try simp (disch := omega) only [updL_ne, updL_eq]); exact R.aband }) (h_fin := by { (try simp (disch := omega) only [updL_ne, updL_eq]); exact R.fin }) (h_wasted := by { (try simp (disch := omega) only [updL_ne, updL_eq]); exact R.wasted }) (h_qual := by { (try simp (disch := omega) only [updL_ne, updL_eq]); exact R.qual }) (h_len := by { (try simp (disch := omega) only [updL_ne, updL_eq]); exact R.len }) (h_kept := by { (try simp (disch := omega) only [updL_ne, updL_eq]); exact R.kept }) (h_bits := fun k hk => by { have hk : (k : Int) < σ.kept := hk; (try simp (disch := omega) only [updL_ne, updL_eq]); exact R.bits k hk }) (h_durs := fun k hk => by { have hk : (k : Int) < σ.kept := hk; (try simp (disch := omega) only [updL_ne, updL_eq]); exact R.durs k hk }) (h_va := fun k hk => by { have hk : (k : Int) < σ.vs := hk; (try simp (disch := omega) only [updL_ne, updL_eq]); exact R.va k hk }) (h_aa := fun k hk => by { have hk : (k : Int) < σ.as := hk; (try simp (disch := omega) only [updL_ne, updL_eq]); exact R.aa k hk }) (h_sg := fun k hk => by { have hk : (k : Int) < σ.len := hk; (try simp (disch := omega) only [updL_ne, updL_eq]); exact R.sg k hk }))⟩
theorem m_mayV {c : Cf} {σ : Ss} (W : WfC c) {T : Int} (S : WfS c T σ) (V : 1 ≤ c.vn) {p la ra : Nat → Int32} {ph : Int32} {ln fl : Nat → Int32} (K : CM c p la ra ph ln fl) {s : Nat → Int64} (R : RM c σ s) : f_X10_mayBegin la p s 0 = some (if mayV c σ then 1 else 0) := by
  obtain ⟨a, ha, ea⟩ := m_buf0 W S K R
  have bb := buf_b W S
  have d0 := W.d0
  have d1 := W.d1
  have m1 := W.m1
  have b13 := W.b13
  have a13 := W.a13
  have s0 := S.v0
  have Rn := R.vs
  have Rt := R.time
  have Kn := K.vn
  have h0 := K.v 0 (by decide)
  have hm := K.v 1 (by decide)
  have h7 := K.v 7 (by decide)
  have h13 := K.v 13 (by decide)
  have e3 : ((3 : Int32) + 0).toNatClampNeg = 3 := rfl
  have e0 : (0 : Int32).toNatClampNeg = 0 := rfl
  have no : f_X10_mayBegin_b57 p s (s 3) = some 0 := rfl
  unfold f_X10_mayBegin
  simp only [bnd]
  rw [grd_v (by decide) (by decide), grd_v (by decide) (by decide), e3, e0]
  by_cases q0 : 0 < c.vn
  · rw [if_neg (by rw [le32, Kn]; simp only [Int32.reduceToInt]; omega)]
    by_cases q1 : σ.vs < c.v 1
    · rw [if_neg (by rw [le64, tl]; omega), ha, obnd_some]
      have bbx := bb.1
      have ea2 : (a + (p 0).toInt64).toInt = bufV c σ + c.v 0 := by rw [add64 (by rw [tl]; omega) (by rw [tl]; omega), tl, ea, h0]
      by_cases q3 : bufV c σ + c.v 0 ≤ c.v 7
      · rw [if_neg (by rw [lt64, tl]; omega)]
        unfold f_X10_mayBegin_b58
        rw [if_neg one_z]
        have mm := mulb (a := σ.vs + 1) (b := c.v 0) (A := 200) (B := 10000) (by omega) (by omega) (by omega) (by omega)
        have e1 : (s 3 + 1).toInt = σ.vs + 1 := by rw [add64 (by simp only [Int64.reduceToInt]; omega) (by simp only [Int64.reduceToInt]; omega), Rn]; rfl
        have e2 : ((s 3 + 1) * (p 0).toInt64).toInt = (σ.vs + 1) * c.v 0 := by rw [mul64 (by rw [tl, e1, h0]; omega) (by rw [tl, e1, h0]; omega), tl, e1, h0]
        have e4 : ((s 3 + 1) * (p 0).toInt64 - (p 13).toInt64).toInt = (σ.vs + 1) * c.v 0 - c.v 13 := by rw [sub64 (by rw [tl]; omega) (by rw [tl]; omega), tl, e2, h13]
        by_cases q2 : c.v 13 = 0 ∨ (σ.vs + 1) * c.v 0 - c.v 13 ≤ σ.time
        · rw [if_pos (show mayV c σ from ⟨q1, q3, q2⟩)]
          by_cases z : c.v 13 = 0
          · rw [if_pos (by rw [eq32, h13]; exact z)]
          · rw [if_neg (by rw [eq32, h13]; exact z), if_neg (by rw [lt64]; omega)]
        · rw [if_neg (by rw [eq32, h13]; exact fun z => q2 (Or.inl z)), if_pos (by rw [lt64]; omega), if_neg (fun o : mayV c σ => q2 o.2.2)]
      · rw [if_pos (by rw [lt64, tl]; omega), no, if_neg (fun o : mayV c σ => q3 o.2.1)]
    · rw [if_pos (by rw [le64, tl]; omega), no, if_neg (fun o : mayV c σ => q1 o.1)]
  · omega
theorem m_mayA {c : Cf} {σ : Ss} (W : WfC c) {T : Int} (S : WfS c T σ) (V : 1 ≤ c.vn) {p la ra : Nat → Int32} {ph : Int32} {ln fl : Nat → Int32} (K : CM c p la ra ph ln fl) {s : Nat → Int64} (R : RM c σ s) : f_X10_mayBegin la p s 1 = some (if mayA c σ then 1 else 0) := by
  obtain ⟨a, ha, ea⟩ := m_buf1 W S K R
  have bb := buf_b W S
  have d0 := W.d0
  have d1 := W.d1
  have m1 := W.m1
  have b13 := W.b13
  have a13 := W.a13
  have s0 := S.a0
  have Rn := R.as
  have Rt := R.time
  have Kn := K.an
  have h0 := K.v 0 (by decide)
  have hm := K.v 1 (by decide)
  have h7 := K.v 7 (by decide)
  have h13 := K.v 13 (by decide)
  have e3 : ((3 : Int32) + 1).toNatClampNeg = 4 := rfl
  have e0 : (1 : Int32).toNatClampNeg = 1 := rfl
  have no : f_X10_mayBegin_b57 p s (s 4) = some 0 := rfl
  unfold f_X10_mayBegin
  simp only [bnd]
  rw [grd_v (by decide) (by decide), grd_v (by decide) (by decide), e3, e0]
  by_cases q0 : 0 < c.an
  · rw [if_neg (by rw [le32, Kn]; simp only [Int32.reduceToInt]; omega)]
    by_cases q1 : σ.as < c.v 1
    · rw [if_neg (by rw [le64, tl]; omega), ha, obnd_some]
      have bbx := bb.2 q0
      have ea2 : (a + (p 0).toInt64).toInt = bufA c σ + c.v 0 := by rw [add64 (by rw [tl]; omega) (by rw [tl]; omega), tl, ea, h0]
      by_cases q3 : bufA c σ + c.v 0 ≤ c.v 7
      · rw [if_neg (by rw [lt64, tl]; omega)]
        unfold f_X10_mayBegin_b58
        rw [if_neg one_z]
        have mm := mulb (a := σ.as + 1) (b := c.v 0) (A := 200) (B := 10000) (by omega) (by omega) (by omega) (by omega)
        have e1 : (s 4 + 1).toInt = σ.as + 1 := by rw [add64 (by simp only [Int64.reduceToInt]; omega) (by simp only [Int64.reduceToInt]; omega), Rn]; rfl
        have e2 : ((s 4 + 1) * (p 0).toInt64).toInt = (σ.as + 1) * c.v 0 := by rw [mul64 (by rw [tl, e1, h0]; omega) (by rw [tl, e1, h0]; omega), tl, e1, h0]
        have e4 : ((s 4 + 1) * (p 0).toInt64 - (p 13).toInt64).toInt = (σ.as + 1) * c.v 0 - c.v 13 := by rw [sub64 (by rw [tl]; omega) (by rw [tl]; omega), tl, e2, h13]
        by_cases q2 : c.v 13 = 0 ∨ (σ.as + 1) * c.v 0 - c.v 13 ≤ σ.time
        · rw [if_pos (show mayA c σ from ⟨by omega, q1, q3, q2⟩)]
          by_cases z : c.v 13 = 0
          · rw [if_pos (by rw [eq32, h13]; exact z)]
          · rw [if_neg (by rw [eq32, h13]; exact z), if_neg (by rw [lt64]; omega)]
        · rw [if_neg (by rw [eq32, h13]; exact fun z => q2 (Or.inl z)), if_pos (by rw [lt64]; omega), if_neg (fun o : mayA c σ => q2 o.2.2.2)]
      · rw [if_pos (by rw [lt64, tl]; omega), no, if_neg (fun o : mayA c σ => q3 o.2.2.1)]
    · rw [if_pos (by rw [le64, tl]; omega), no, if_neg (fun o : mayA c σ => q1 o.2.1)]
  · rw [if_pos (by rw [le32, Kn]; simp only [Int32.reduceToInt]; omega), no, if_neg (fun o : mayA c σ => q0 o.1)]
theorem m_next {c : Cf} {σ : Ss} (W : WfC c) {T : Int} (S : WfS c T σ) (V : 1 ≤ c.vn) {p la ra : Nat → Int32} {ph : Int32} {ln fl : Nat → Int32} (K : CM c p la ra ph ln fl) {s : Nat → Int64} (R : RM c σ s) {mode : Int32} : ∃ s', f_X10_looksForNext la p ra s mode = some s' ∧ RM c (nextS c σ mode.toInt) s' := by
  have ev := m_mayV W S V K R
  have ea := m_mayA W S V K R
  have m1 := W.m1
  have s0 := S.v0
  have s1 := S.a0
  have Rv := R.vs
  have Ra := R.as
  have vid : mayV c σ → ∃ s', (obnd (f_X10_chosen la p ra s mode) fun (z8 : Int64) => obnd (f_X10_begins p ra s 0 (s 3) z8) fun (u9 : Nat → Int64) => some u9) = some s' ∧ RM c (beginsS c σ 0 σ.vs (chosenS c σ mode.toInt)) s' := by
    intro q
    have q1 := q.1
    obtain ⟨z, hz, ez⟩ := m_chosen W S V K R (mode := mode)
    have cb := chosenS_b W S V mode.toInt
    obtain ⟨s', hs, Rs⟩ := m_begins W S K R (p1 := 0) (p2 := s 3) (p3 := z) (Or.inl rfl) (by omega) (by omega) (by omega) (by show z.toInt < c.vn; omega)
    rw [hz, obnd_some, hs, obnd_some]
    refine ⟨_, rfl, ?_⟩
    rw [ez, Rv] at Rs; exact Rs
  have aud : mayA c σ → ∃ s', (obnd (f_X10_borne la p ra s 1 500) fun (z5 : Int64) => obnd (f_X10_begins p ra s 1 (s 4) z5) fun (u6 : Nat → Int64) => some u6) = some s' ∧ RM c (beginsS c σ 1 σ.as (bor c.ar 500 (lim c σ) c.an.toNat)) s' := by
    intro q
    have q0 := q.1
    have q1 := q.2.1
    obtain ⟨z, hz, ez⟩ := m_borA W S K R
    have hb := bor_b (f := c.ar) (fac := 500) (lim := lim c σ) c.an.toNat
    have hb' := hb.2 (by omega)
    obtain ⟨s', hs, Rs⟩ := m_begins W S K R (p1 := 1) (p2 := s 4) (p3 := z) (Or.inr rfl) (by omega) (by omega) (by omega) (by show z.toInt < c.an; omega)
    rw [hz, obnd_some, hs, obnd_some]
    refine ⟨_, rfl, ?_⟩
    rw [ez, Ra] at Rs; exact Rs
  unfold f_X10_looksForNext nextS
  rw [ev, ea, obnd_some, obnd_some]
  by_cases qv : mayV c σ
  · by_cases qa : mayA c σ
    · rw [if_pos qv, if_pos qa, if_neg one_z, if_neg one_z]
      by_cases ql : σ.vs ≤ σ.as
      · rw [if_neg (by rw [lt64]; omega), if_pos ⟨qv, Or.inr ql⟩]
        exact vid qv
      · rw [if_pos (by rw [lt64]; omega), if_neg one_z, if_pos qa, if_neg (fun o : mayV c σ ∧ (¬ mayA c σ ∨ σ.vs ≤ σ.as) => o.2.elim (fun n => n qa) ql)]
        exact aud qa
    · rw [if_pos qv, if_neg qa, if_neg one_z, if_pos rfl, if_pos ⟨qv, Or.inl qa⟩]
      exact vid qv
  · have nq : ¬ (mayV c σ ∧ (¬ mayA c σ ∨ σ.vs ≤ σ.as)) := fun o => qv o.1
    by_cases qa : mayA c σ
    · rw [if_neg qv, if_pos qa, if_pos rfl, if_neg one_z, if_neg nq, if_pos qa]
      exact aud qa
    · rw [if_neg qv, if_neg qa, if_pos rfl, if_pos rfl, if_neg nq, if_neg qa]
      exact ⟨_, rfl, R⟩
