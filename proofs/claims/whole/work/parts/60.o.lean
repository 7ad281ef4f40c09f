/-! the reference's whole millisecond, and many of them -/
theorem m_spend {c : Cf} {σ : Ss} (W : WfC c) {T : Int} (S : WfS c T σ) (ht : σ.time + 1 ≤ 10020000) {s : Nat → Int64} (R : RM c σ s) :
    (σ.state = 4 → RM c (spendS σ) (vp_updL s 0 (s 0 + 1))) ∧ (σ.state = 1 → RM c (spendS σ) (vp_updL (vp_updL s 15 (s 15 + 1)) 0 (s 0 + 1))) ∧ (σ.state = 3 → RM c (spendS σ) (vp_updL (vp_updL s 16 (s 16 + 1)) 0 (s 0 + 1))) ∧ (σ.state = 2 → RM c (spendS σ) (vp_updL (vp_updL s 17 (s 17 + 1)) 0 (s 0 + 1))) := by
  have t0 := S.t0
  have T1 := S.T1
  have su0 := S.su0
  have su1 := S.su1
  have st0 := S.st0
  have st1 := S.st1
  have pl0 := S.pl0
  have pl1 := S.pl1
  have k1 := S.k1
  have v1 := S.v1
  have a1 := S.a1
  have n1 := S.n1
  have m1 := W.m1
  have et : (s 0 + 1).toInt = σ.time + 1 := by rw [add64 (by rw [R.time]; simp only [Int64.reduceToInt]; omega) (by rw [R.time]; simp only [Int64.reduceToInt]; omega), R.time]; rfl
  have e15 : (s 15 + 1).toInt = σ.su + 1 := by rw [add64 (by rw [R.su]; simp only [Int64.reduceToInt]; omega) (by rw [R.su]; simp only [Int64.reduceToInt]; omega), R.su]; rfl
  have e16 : (s 16 + 1).toInt = σ.st + 1 := by rw [add64 (by rw [R.st]; simp only [Int64.reduceToInt]; omega) (by rw [R.st]; simp only [Int64.reduceToInt]; omega), R.st]; rfl
  have e17 : (s 17 + 1).toInt = σ.pl + 1 := by rw [add64 (by rw [R.pl]; simp only [Int64.reduceToInt]; omega) (by rw [R.pl]; simp only [Int64.reduceToInt]; omega), R.pl]; rfl
  exact ⟨fun h => (RM.mk (h_time := by { (try simp (disch := omega) only [updL_ne, updL_eq]); exact et }) (h_pos := by { (try simp (disch := omega) only [updL_ne, updL_eq]); exact R.pos }) (h_state := by { (try simp (disch := omega) only [updL_ne, updL_eq]); exact R.state }) (h_vs := by { (try simp (disch := omega) only [updL_ne, updL_eq]); exact R.vs }) (h_as := by { (try simp (disch := omega) only [updL_ne, updL_eq]); exact R.as }) (h_going := by { (try simp (disch := omega) only [updL_ne, updL_eq]); exact R.going }) (h_track := fun h => by { (try simp (disch := omega) only [updL_ne, updL_eq]); exact R.track h }) (h_seg := fun h => by { (try simp (disch := omega) only [updL_ne, updL_eq]); exact R.seg h }) (h_rung := fun h => by { (try simp (disch := omega) only [updL_ne, updL_eq]); exact R.rung h }) (h_wait := fun h => by { (try simp (disch := omega) only [updL_ne, updL_eq]); exact R.wait h }) (h_dur := fun h => by { (try simp (disch := omega) only [updL_ne, updL_eq]); exact R.dur h }) (h_got := fun h => by { (try simp (disch := omega) only [updL_ne, updL_eq]); exact R.got h }) (h_need := fun h => by { (try simp (disch := omega) only [updL_ne, updL_eq]); exact R.need h }) (h_last := by { (try simp (disch := omega) only [updL_ne, updL_eq]); exact R.last }) (h_chg := by { (try simp (disch := omega) only [updL_ne, updL_eq]); exact R.chg }) (h_su := by { (try simp (disch := omega) only [updL_ne, updL_eq]); show _ = (if σ.state = 1 then σ.su + 1 else σ.su); rw [if_neg (by omega)]; exact R.su }) (h_st := by { (try simp (disch := omega) only [updL_ne, updL_eq]); show _ = (if σ.state = 3 then σ.st + 1 else σ.st); rw [if_neg (by omega)]; exact R.st }) (h_pl := by { (try simp (disch := omega) only [updL_ne, updL_eq]); show _ = (if σ.state = 2 then σ.pl + 1 else σ.pl); rw [if_neg (by omega)]; exact R.pl }) (h_stalls := by { (try simp (disch := omega) only [updL_ne, updL_eq]); exact R.stalls }) (h_aband := by { (try simp (disch := omega) only [updL_ne, updL_eq]); exact R.aband }) (h_fin := by { (try simp (disch := omega) only [updL_ne, updL_eq]); exact R.fin }) (h_wasted := by { (try simp (disch := omega) only [updL_ne, updL_eq]); exact R.wasted }) (h_qual := by { (try simp (disch := omega) only [updL_ne, updL_eq]); exact R.qual }) (h_len := by { (try simp (disch := omega) only [updL_ne, updL_eq]); exact R.len }) (h_kept := by { (try simp (disch := omega) only [updL_ne, updL_eq]); exact R.kept }) (h_bits := fun k hk => by { have hk : (k : Int) < σ.kept := hk; (try simp (disch := omega) only [updL_ne, updL_eq]); exact R.bits k hk }) (h_durs := fun k hk => by { have hk : (k : Int) < σ.kept := hk; (try simp (disch := omega) only [updL_ne, updL_eq]); exact R.durs k hk }) (h_va := fun k hk => by { have hk : (k : Int) < σ.vs := hk; (try simp (disch := omega) only [updL_ne, updL_eq]); exact R.va k hk }) (h_aa := fun k hk => by { have hk : (k : Int) < σ.as := hk; (try simp (disch := omega) only [updL_ne, updL_eq]); exact R.aa k hk }) (h_sg := fun k hk => by { have hk : (k : Int) < σ.len := hk; (try simp (disch := omega) only [updL_ne, updL_eq]); exact R.sg k hk })), fun h => (RM.mk (h_time := by { (try simp (disch := omega) only [updL_ne, updL_eq]); exact et }) (h_pos := by { (try simp (disch := omega) only [updL_ne, updL_eq]); exact R.pos }) (h_state := by { (try simp (disch := omega) only [updL_ne, updL_eq]); exact R.state }) (h_vs := by { (try simp (disch := omega) only [updL_ne, updL_eq]); exact R.vs }) (h_as := by { (try simp (disch := omega) only [updL_ne, updL_eq]); exact R.as }) (h_going := by { (try simp (disch := omega) only [updL_ne, updL_eq]); exact R.going }) (h_track := fun h => by { (try simp (disch := omega) only [updL_ne, updL_eq]); exact R.track h }) (h_seg := fun h => by { (try simp (disch := omega) only [updL_ne, updL_eq]); exact R.seg h }) (h_rung := fun h => by { (try simp (disch := omega) only [updL_ne, updL_eq]); exact R.rung h }) (h_wait := fun h => by { (try simp (disch := omega) only [updL_ne, updL_eq]); exact R.wait h }) (h_dur := fun h => by { (try simp (disch := omega) only [updL_ne, updL_eq]); exact R.dur h }) (h_got := fun h => by { (try simp (disch := omega) only [updL_ne, updL_eq]); exact R.got h }) (h_need := fun h => by { (try simp (disch := omega) only [updL_ne, updL_eq]); exact R.need h }) (h_last := by { (try simp (disch := omega) only [updL_ne, updL_eq]); exact R.last }) (h_chg := by { (try simp (disch := omega) only [updL_ne, updL_eq]); exact R.chg }) (h_su := by { (try simp (disch := omega) only [updL_ne, updL_eq]); show _ = (if σ.state = 1 then σ.su + 1 else σ.su); rw [if_pos h]; exact e15 }) (h_st := by { (try simp (disch := omega) only [updL_ne, updL_eq]); show _ = (if σ.state = 3 then σ.st + 1 else σ.st); rw [if_neg (by omega)]; exact R.st }) (h_pl := by { (try simp (disch := omega) only [updL_ne, updL_eq]); show _ = (if σ.state = 2 then σ.pl + 1 else σ.pl); rw [if_neg (by omega)]; exact R.pl }) (h_stalls := by { (try simp (disch := omega) only [updL_ne, updL_eq]); exact R.stalls }) (h_aband := by { (try simp (disch := omega) only [updL_ne, updL_eq]); exact R.aband }) (h_fin := by { (try simp (disch := omega) only [updL_ne, updL_eq]); exact R.fin }) (h_wasted := by { (try simp (disch := omega) only [updL_ne, updL_eq]); exact R.wasted }) (h_qual := by { (try simp (disch := omega) only [updL_ne, updL_eq]); exact R.qual }) (h_len := by { (try simp (disch := omega) only [updL_ne, updL_eq]); exact R.len }) (h_kept := by { (try simp (disch := omega) only [updL_ne, updL_eq]); exact R.kept }) (h_bits := fun k hk => by { have hk : (k : Int) < σ.kept := hk; (try simp (disch := omega) only [updL_ne, updL_eq]); exact R.bits k hk }) (h_durs := fun k hk => by { have hk : (k : Int) < σ.kept := hk; (try simp (disch := omega) only [updL_ne, updL_eq]); exact R.durs k hk }) (h_va := fun k hk => by { have hk : (k : Int) < σ.vs := hk; (try simp (disch := omega) only [updL_ne, updL_eq]); exact R.va k hk }) (h_aa := fun k hk => by { have hk : (k : Int) < σ.as := hk; (try simp (disch := omega) only [updL_ne, updL_eq]); exact R.aa k hk }) (h_sg := fun k hk => by { have hk : (k : Int) < σ.len := hk; (try simp (disch := omega) only [updL_ne, updL_eq]); exact R.sg k hk })), fun h => (RM.mk (h_time := by { (try simp (disch := omega) only [updL_ne, updL_eq]); exact et }) (h_pos := by { (try simp (disch := omega) only [updL_ne, updL_eq]); exact R.pos }) (h_state := by { (try simp (disch := omega) only [updL_ne, updL_eq]); exact R.state }) (h_vs := by { (try simp (disch := omega) only [updL_ne, updL_eq]); exact R.vs }) (h_as := by { (try simp (disch := omega) only [updL_ne, updL_eq]); exact R.as }) (h_going := by { (try simp (disch := omega) only [updL_ne, updL_eq]); exact R.going }) (h_track := fun h => by { (try simp (disch := omega) only [updL_ne, updL_eq]); exact R.track h }) (h_seg := fun h => by { (try simp (disch := omega) only [updL_ne, updL_eq]); exact R.seg h }) (h_rung := fun h => by { (try simp (disch := omega) only [updL_ne, updL_eq]); exact R.rung h }) (h_wait := fun h => by { (try simp (disch := omega) only [updL_ne, updL_eq]); exact R.wait h }) (h_dur := fun h => by { (try simp (disch := omega) only [updL_ne, updL_eq]); exact R.dur h }) (h_got := fun h => by { (try simp (disch := omega) only [updL_ne, updL_eq]); exact R.got h }) (h_need := fun h => by { (try simp (disch := omega) only [updL_ne, updL_eq]); exact R.need h }) (h_last := by { (try simp (disch := omega) only [updL_ne, updL_eq]); exact R.last }) (h_chg := by { (try simp (disch := omega) only [updL_ne, updL_eq]); exact R.chg }) (h_su := by { (try simp (disch := omega) only [updL_ne, updL_eq]); show _ = (if σ.state = 1 then σ.su + 1 else σ.su); rw [if_neg (by omega)]; exact R.su }) (h_st := by { (try simp (disch := omega) only [updL_ne, updL_eq]); show _ = (if σ.state = 3 then σ.st + 1 else σ.st); rw [if_pos h]; exact e16 }) (h_pl := by { (try simp (disch := omega) only [updL_ne, updL_eq]); show _ = (if σ.state = 2 then σ.pl + 1 else σ.pl); rw [if_neg (by omega)]; exact R.pl }) (h_stalls := by { (try simp (disch := omega) only [updL_ne, updL_eq]); exact R.stalls }) (h_aband := by { (try simp (disch := omega) only [updL_ne, updL_eq]); exact R.aband }) (h_fin := by { (try simp (disch := omega) only [updL_ne, updL_eq]); exact R.fin }) (h_wasted := by { (try simp (disch := omega) only [updL_ne, updL_eq]); exact R.wasted }) (h_qual := by { (try simp (disch := omega) only [updL_ne, updL_eq]); exact R.qual }) (h_len := by { (try simp (disch := omega) only [updL_ne, updL_eq]); exact R.len }) (h_kept := by { (try simp (disch := omega) only [updL_ne, updL_eq]); exact R.kept }) (h_bits := fun k hk => by { have hk : (k : Int) < σ.kept := hk; (try simp (disch := omega) only [updL_ne, updL_eq]); exact R.bits k hk }) (h_durs := fun k hk => by { have hk : (k : Int) < σ.kept := hk; (try simp (disch := omega) only [updL_ne, updL_eq]); exact R.durs k hk }) (h_va := fun k hk => by { have hk : (k : Int) < σ.vs := hk; (try simp (disch := omega) only [updL_ne, updL_eq]); exact R.va k hk }) (h_aa := fun k hk => by { have hk : (k : Int) < σ.as := hk; (try simp (disch := omega) only [updL_ne, updL_eq]); exact R.aa k hk }) (h_sg := fun k hk => by { have hk : (k : Int) < σ.len := hk; (try simp (disch := omega) only [updL_ne, updL_eq]); exact R.sg k hk })), fun h => (RM.mk (h_time := by { (try simp (disch := omega) only [updL_ne, updL_eq]); exact et }) (h_pos := by { (try simp (disch := omega) only [updL_ne, updL_eq]); exact R.pos }) (h_state := by { (try simp (disch := omega) only [updL_ne, updL_eq]); exact R.state }) (h_vs := by { (try simp (disch := omega) only [updL_ne, updL_eq]); exact R.vs }) (h_as := by { (try simp (disch := omega) only [updL_ne, updL_eq]); exact R.as }) (h_going := by { (try simp (disch := omega) only [updL_ne, updL_eq]); exact R.going }) (h_track := fun h => by { (try simp (disch := omega) only [updL_ne, updL_eq]); exact R.track h }) (h_seg := fun h => by { (try simp (disch := omega) only [updL_ne, updL_eq]); exact R.seg h }) (h_rung := fun h => by { (try simp (disch := omega) only [updL_ne, updL_eq]); exact R.rung h }) (h_wait := fun h => by { (try simp (disch := omega) only [updL_ne, updL_eq]); exact R.wait h }) (h_dur := fun h => by { (try simp (disch := omega) only [updL_ne, updL_eq]); exact R.dur h }) (h_got := fun h => by { (try simp (disch := omega) only [updL_ne, updL_eq]); exact R.got h }) (h_need := fun h => by { (try simp (disch := omega) only [updL_ne, updL_eq]); exact R.need h }) (h_last := by { (try simp (disch := omega) only [updL_ne, updL_eq]); exact R.last }) (h_chg := by { (try simp (disch := omega) only [updL_ne, updL_eq]); exact R.chg }) (h_su := by { (try simp (disch := omega) only [updL_ne, updL_eq]); show _ = (if σ.state = 1 then σ.su + 1 else σ.su); rw [if_neg (by omega)]; exact R.su }) (h_st := by { (try simp (disch := omega) only [updL_ne, updL_eq]); show _ = (if σ.state = 3 then σ.st + 1 else σ.st); rw [if_neg (by omega)]; exact R.st }) (h_pl := by { (try simp (disch := omega) only [updL_ne, updL_eq]); show _ = (if σ.state = 2 then σ.pl + 1 else σ.pl); rw [if_pos h]; exact e17 }) (h_stalls := by { (try simp (disch := omega) only [updL_ne, updL_eq]); exact R.stalls }) (h_aband := by { (try simp (disch := omega) only [updL_ne, updL_eq]); exact R.aband }) (h_fin := by { (try simp (disch := omega) only [updL_ne, updL_eq]); exact R.fin }) (h_wasted := by { (try simp (disch := omega) only [updL_ne, updL_eq]); exact R.wasted }) (h_qual := by { (try simp (disch := omega) only [updL_ne, updL_eq]); exact R.qual }) (h_len := by { (try simp (disch := omega) only [updL_ne, updL_eq]); exact R.len }) (h_kept := by { (try simp (disch := omega) only [updL_ne, updL_eq]); exact R.kept }) (h_bits := fun k hk => by { have hk : (k : Int) < σ.kept := hk; (try simp (disch := omega) only [updL_ne, updL_eq]); exact R.bits k hk }) (h_durs := fun k hk => by { have hk : (k : Int) < σ.kept := hk; (try simp (disch := omega) only [updL_ne, updL_eq]); exact R.durs k hk }) (h_va := fun k hk => by { have hk : (k : Int) < σ.vs := hk; (try simp (disch := omega) only [updL_ne, updL_eq]); exact R.va k hk }) (h_aa := fun k hk => by { have hk : (k : Int) < σ.as := hk; (try simp (disch := omega) only [updL_ne, updL_eq]); exact R.aa k hk }) (h_sg := fun k hk => by { have hk : (k : Int) < σ.len := hk; (try simp (disch := omega) only [updL_ne, updL_eq]); exact R.sg k hk }))⟩
theorem m_b54 {c : Cf} {σ : Ss} (W : WfC c) {T : Int} (S : WfS c T σ) (V : 1 ≤ c.vn) (hT : T + 1 ≤ 41000000) (ht : σ.time + 1 ≤ 10020000) {p la ra : Nat → Int32} {ph : Int32} {ln fl : Nat → Int32} (K : CM c p la ra ph ln fl) {s : Nat → Int64} (R : RM c σ s) {l2 l3 th l5 : Int32} :
    ∀ KK, ∃ s', f_X10_goesOn_b54 la p ra KK s l2 l3 th l5 = KK s' l2 l3 th (l5 + 1) ∧ RM c (spendS (playsS c th.toInt σ)) s' := by
  intro KK
  obtain ⟨u, hu, Ru⟩ := m_plays W S V hT K R (th := th)
  have Su := plays_wf W S hT th.toInt
  have sp := m_spend W Su (by rw [plays_time]; exact ht) Ru
  have s0 := Su.s0
  have s1 := Su.s1
  have Rs := Ru.state
  have n0 : (15 + (0 : Int32)).toNatClampNeg = 15 := rfl
  have n1 : (15 + (1 : Int32)).toNatClampNeg = 16 := rfl
  have n2 : (15 + (2 : Int32)).toNatClampNeg = 17 := rfl
  have x15 : ∀ x : Int64, vp_updL u 15 x 0 = u 0 := fun x => by (try simp (disch := omega) only [updL_ne, updL_eq])
  have x16 : ∀ x : Int64, vp_updL u 16 x 0 = u 0 := fun x => by (try simp (disch := omega) only [updL_ne, updL_eq])
  have x17 : ∀ x : Int64, vp_updL u 17 x 0 = u 0 := fun x => by (try simp (disch := omega) only [updL_ne, updL_eq])
  unfold f_X10_goesOn_b54
  rw [hu, obnd_some]
  by_cases h4 : (playsS c th.toInt σ).state = 4
  · rw [if_pos (by rw [eq64, Rs, h4]; rfl)]
    simp only [bnd_p]
    exact ⟨_, rfl, sp.1 h4⟩
  · rw [if_neg (by rw [eq64, Rs]; exact h4)]
    unfold f_X10_goesOn_b98
    by_cases h1 : (playsS c th.toInt σ).state = 1
    · rw [if_pos (by rw [eq64, Rs, h1]; rfl), grd_v (by decide) (by decide), n0]
      simp only [bnd_p]
      rw [grd_v (by decide) (by decide), x15]
      exact ⟨_, rfl, sp.2.1 h1⟩
    · rw [if_neg (by rw [eq64, Rs]; exact h1)]
      by_cases h3 : (playsS c th.toInt σ).state = 3
      · rw [if_pos (by rw [eq64, Rs, h3]; rfl), grd_v (by decide) (by decide), n1]
        simp only [bnd_p]
        rw [grd_v (by decide) (by decide), x16]
        exact ⟨_, rfl, sp.2.2.1 h3⟩
      · rw [if_neg (by rw [eq64, Rs]; exact h3), grd_v (by decide) (by decide), n2]
        simp only [bnd_p]
        rw [grd_v (by decide) (by decide), x17]
        exact ⟨_, rfl, sp.2.2.2 (by omega)⟩
theorem m_b41 {c : Cf} {σ : Ss} (W : WfC c) {T : Int} (S : WfS c T σ) (V : 1 ≤ c.vn) (hT : T + 2 ≤ 41000000) (ht : σ.time + 1 ≤ 10020000) {p la ra : Nat → Int32} {ph : Int32} {ln fl : Nat → Int32} (K : CM c p la ra ph ln fl) {s : Nat → Int64} (R : RM c σ s) {l2 l3 th l5 : Int32} :
    ∀ KK, ∃ s', f_X10_goesOn_b41 la p ra KK s l2 l3 th l5 = KK s' l2 l3 th (l5 + 1) ∧ RM c (spendS (playsS c th.toInt (givesS c σ))) s' := by
  intro KK
  have S1 := gives_wf W S (by omega)
  have et : (givesS c σ).time + 1 ≤ 10020000 := by rw [gives_time]; exact ht
  have Rg := R.going
  unfold f_X10_goesOn_b41
  rcases S.g0 with G | G
  · have e : givesS c σ = σ := by unfold givesS; rw [if_neg (fun o => by have := o.1; omega)]
    rw [if_neg (by rw [eq64, Rg, G]; decide)]
    rw [e] at S1 et ⊢
    exact m_b54 W S1 V (by omega) et K R KK
  · obtain ⟨u, hu, Ru⟩ := m_gives W S V G (by omega) K R
    rw [if_pos (by rw [eq64, Rg, G]; rfl), hu, obnd_some]
    exact m_b54 W S1 V (by omega) et K Ru KK
theorem m_b28 {c : Cf} {σ : Ss} (W : WfC c) {T : Int} (S : WfS c T σ) (V : 1 ≤ c.vn) (hT : T + 3 ≤ 41000000) (ht : σ.time + 1 ≤ 10020000) {p la ra : Nat → Int32} {ph : Int32} {ln fl : Nat → Int32} (K : CM c p la ra ph ln fl) {s : Nat → Int64} (R : RM c σ s) {l2 l3 th l5 : Int32} :
    ∀ KK, ∃ s', f_X10_goesOn_b28 ph fl la ln p ra KK s l2 l3 th l5 = KK s' l2 l3 th (l5 + 1) ∧ RM c (spendS (playsS c th.toInt (givesS c (rvS c σ)))) s' := by
  intro KK
  have S1 := rv_wf W S V (by omega)
  have et : (rvS c σ).time + 1 ≤ 10020000 := by rw [rv_time]; exact ht
  have Rg := R.going
  unfold f_X10_goesOn_b28
  rcases S.g0 with G | G
  · have e : rvS c σ = σ := by unfold rvS; rw [if_neg (by omega)]
    rw [if_neg (by rw [eq64, Rg, G]; decide)]
    rw [e] at S1 et ⊢
    exact m_b41 W S1 V (by omega) et K R KK
  · have e : rvS c σ = recvS c σ := by unfold rvS; rw [if_pos G]
    obtain ⟨u, hu, Ru⟩ := m_recv W S G K R
    rw [if_pos (by rw [eq64, Rg, G]; rfl), hu, obnd_some]
    rw [e] at S1 et ⊢
    exact m_b41 W S1 V (by omega) et K Ru KK
theorem m_goesL {c : Cf} (W : WfC c) (V : 1 ≤ c.vn) {p la ra : Nat → Int32} {ph : Int32} {ln fl : Nat → Int32} (K : CM c p la ra ph ln fl) {ms mode th : Int32} : ∀ (n g : Nat) (σ : Ss) (T : Int), WfS c T σ → T + 4 * n ≤ 41000000 → σ.time + n ≤ 10020000 → ∀ (s : Nat → Int64), RM c σ s → ∀ (l5 : Int32), l5.toInt + n = ms.toInt → n < g →
    ∃ s', f_X10_goesOn_b3 ph fl la ln p ra g s ms mode th l5 = some s' ∧ RM c (iterS c mode.toInt th.toInt n σ) s' := by
  intro n
  induction n with
  | zero =>
    intro g σ T S hT ht s R l5 hl hg
    obtain ⟨g, rfl⟩ : ∃ g', g = g' + 1 := ⟨g - 1, by omega⟩
    unfold f_X10_goesOn_b3 iterS
    rw [if_pos (by rw [le32]; omega)]
    exact ⟨_, rfl, R⟩
  | succ n ih =>
    intro g σ T S hT ht s R l5 hl hg
    obtain ⟨g, rfl⟩ : ∃ g', g = g' + 1 := ⟨g - 1, by omega⟩
    have lb := Int32.toInt_lt ms
    have lc := Int32.le_toInt l5
    have el : (l5 + 1).toInt = l5.toInt + 1 := by rw [add32 (by simp only [Int32.reduceToInt]; omega) (by simp only [Int32.reduceToInt]; omega)]; rfl
    have t := tick_wf W S V mode.toInt th.toInt (by omega) (by omega)
    have S1 := tells_wf W S V
    have S2 := dl_wf W S1 V mode.toInt
    have et : (dlS c mode.toInt (tellsS c σ)).time + 1 ≤ 10020000 := by rw [dl_time, tells_time.1]; omega
    obtain ⟨u, hu, Ru⟩ := m_tells W S V K R
    have Rg := Ru.going
    unfold f_X10_goesOn_b3 iterS
    rw [if_neg (by rw [le32]; omega), hu, obnd_some]
    rcases S1.g0 with G | G
    · have e : dlS c mode.toInt (tellsS c σ) = nextS c (tellsS c σ) mode.toInt := by unfold dlS; rw [if_neg (by omega)]
      obtain ⟨w, hw, Rw⟩ := m_next W S1 V K Ru (mode := mode)
      rw [if_pos (by rw [eq64, Rg, G]; rfl), hw, obnd_some]
      rw [← e] at Rw
      obtain ⟨y, hy, Ry⟩ := m_b28 W S2 V (by omega) et K Rw (l2 := ms) (l3 := mode) (th := th) (l5 := l5) (f_X10_goesOn_b3 ph fl la ln p ra g)
      rw [hy]
      exact ih g _ (T + 4) t.1 (by omega) (by rw [t.2]; omega) y Ry (l5 + 1) (by omega) (by omega)
    · have e : dlS c mode.toInt (tellsS c σ) = tellsS c σ := by unfold dlS; rw [if_pos G]
      rw [if_neg (by rw [eq64, Rg, G]; decide)]
      rw [← e] at Ru
      obtain ⟨y, hy, Ry⟩ := m_b28 W S2 V (by omega) et K Ru (l2 := ms) (l3 := mode) (th := th) (l5 := l5) (f_X10_goesOn_b3 ph fl la ln p ra g)
      rw [hy]
      exact ih g _ (T + 4) t.1 (by omega) (by rw [t.2]; omega) y Ry (l5 + 1) (by omega) (by omega)
theorem m_goes {c : Cf} {σ : Ss} (W : WfC c) {T : Int} (S : WfS c T σ) (V : 1 ≤ c.vn) {p la ra : Nat → Int32} {ph : Int32} {ln fl : Nat → Int32} (K : CM c p la ra ph ln fl) {mode th ms : Int32} {n : Nat} (hn : ms.toInt = n) (hT : T + 4 * n ≤ 41000000) (ht : σ.time + n ≤ 10020000) {s : Nat → Int64} (R : RM c σ s) :
    ∃ s', f_X10_goesOn ph fl la ln p ra s ms mode th = some s' ∧ RM c (iterS c mode.toInt th.toInt n σ) s' := by
  unfold f_X10_goesOn
  exact m_goesL W V K n _ σ T S hT ht s R 0 (by simp only [Int32.reduceToInt]; omega) (by simp only [Int32.reduceToInt]; omega)
/-! a session that begins -/
def freshS : Ss := (Ss.mk (0) (0) (1) (0) (0) (0) (0) (0) (0) (0) (0) (0) (0) (-1) (0) (0) (0) (0) (0) (0) (0) (0) (0) (0) (0) (0) (fun _ => 0) (fun _ => 0) (fun _ => 0) (fun _ => 0) (fun _ => 0))
theorem m_clearL : ∀ (n k g : Nat) (r : Nat → Int64) (l1 : Int32), k + n = 760 → n < g → l1.toInt = k → (∀ j, j < k → r j = 0) → ∃ u : Nat → Int64, f_X10_clears_b2 g r l1 = vp_updL (vp_updL u 2 1) 13 (-1) ∧ ∀ j, j < 760 → u j = 0
  | 0, k, g + 1, r, l1, hk, hg, hl, hr => by
    unfold f_X10_clears_b2
    rw [if_pos (by rw [le32, hl]; simp only [Int32.reduceToInt]; omega)]
    exact ⟨r, rfl, fun j hj => hr j (by omega)⟩
  | n + 1, k, g + 1, r, l1, hk, hg, hl, hr => by
    have en : l1.toNatClampNeg = k := by rw [tn, hl]; rfl
    unfold f_X10_clears_b2
    rw [if_neg (by rw [le32, hl]; simp only [Int32.reduceToInt]; omega), en]
    simp only [bnd_p]
    refine m_clearL n (k + 1) g _ _ (by omega) (by omega) (by rw [add32 (by simp only [Int32.reduceToInt]; omega) (by simp only [Int32.reduceToInt]; omega), hl]; rfl) (fun j hj => ?_)
    by_cases e : j = k
    · rw [e, updL_eq]
    · rw [updL_ne e]; exact hr j (by omega)
theorem m_clear {c : Cf} {r : Nat → Int64} : RM c freshS (f_X10_clears r) := by
  unfold f_X10_clears
  generalize hg : ((((760 : Int32).toInt - (0 : Int32).toInt).toNat) + 1) = g
  have hg2 : 760 < g := by rw [← hg]; simp only [Int32.reduceToInt]; omega
  clear hg
  obtain ⟨u, hu, h⟩ := m_clearL 760 0 g r 0 (by omega) hg2 rfl (fun j hj => by omega)
  exact (RM.mk (h_time := by { rw [hu]; (try simp (disch := omega) only [updL_ne, updL_eq]); rw [h 0 (by omega)]; rfl }) (h_pos := by { rw [hu]; (try simp (disch := omega) only [updL_ne, updL_eq]); rw [h 1 (by omega)]; rfl }) (h_state := by { rw [hu]; (try simp (disch := omega) only [updL_ne, updL_eq]); rfl }) (h_vs := by { rw [hu]; (try simp (disch := omega) only [updL_ne, updL_eq]); rw [h 3 (by omega)]; rfl }) (h_as := by { rw [hu]; (try simp (disch := omega) only [updL_ne, updL_eq]); rw [h 4 (by omega)]; rfl }) (h_going := by { rw [hu]; (try simp (disch := omega) only [updL_ne, updL_eq]); rw [h 5 (by omega)]; rfl }) (h_track := fun h => absurd h (by show ¬ (0 : Int) = 1; decide)) (h_seg := fun h => absurd h (by show ¬ (0 : Int) = 1; decide)) (h_rung := fun h => absurd h (by show ¬ (0 : Int) = 1; decide)) (h_wait := fun h => absurd h (by show ¬ (0 : Int) = 1; decide)) (h_dur := fun h => absurd h (by show ¬ (0 : Int) = 1; decide)) (h_got := fun h => absurd h (by show ¬ (0 : Int) = 1; decide)) (h_need := fun h => absurd h (by show ¬ (0 : Int) = 1; decide)) (h_last := by { rw [hu]; (try simp (disch := omega) only [updL_ne, updL_eq]); rfl }) (h_chg := by { rw [hu]; (try simp (disch := omega) only [updL_ne, updL_eq]); rw [h 14 (by omega)]; rfl }) (h_su := by { rw [hu]; (try simp (disch := omega) only [updL_ne, updL_eq]); rw [h 15 (by omega)]; rfl }) (h_st := by { rw [hu]; (try simp (disch := omega) only [updL_ne, updL_eq]); rw [h 16 (by omega)]; rfl }) (h_pl := by { rw [hu]; (try simp (disch := omega) only [updL_ne, updL_eq]); rw [h 17 (by omega)]; rfl }) (h_stalls := by { rw [hu]; (try simp (disch := omega) only [updL_ne, updL_eq]); rw [h 18 (by omega)]; rfl }) (h_aband := by { rw [hu]; (try simp (disch := omega) only [updL_ne, updL_eq]); rw [h 19 (by omega)]; rfl }) (h_fin := by { rw [hu]; (try simp (disch := omega) only [updL_ne, updL_eq]); rw [h 20 (by omega)]; rfl }) (h_wasted := by { rw [hu]; (try simp (disch := omega) only [updL_ne, updL_eq]); exact h 21 (by omega) }) (h_qual := by { rw [hu]; (try simp (disch := omega) only [updL_ne, updL_eq]); exact h 22 (by omega) }) (h_len := by { rw [hu]; (try simp (disch := omega) only [updL_ne, updL_eq]); rw [h 23 (by omega)]; rfl }) (h_kept := by { rw [hu]; (try simp (disch := omega) only [updL_ne, updL_eq]); rw [h 24 (by omega)]; rfl }) (h_bits := fun k hk => by { have hk : (k : Int) < 0 := hk; omega }) (h_durs := fun k hk => by { have hk : (k : Int) < 0 := hk; omega }) (h_va := fun k hk => by { have hk : (k : Int) < 0 := hk; omega }) (h_aa := fun k hk => by { have hk : (k : Int) < 0 := hk; omega }) (h_sg := fun k hk => by { have hk : (k : Int) < 0 := hk; omega }))
theorem fresh_wf {c : Cf} (W : WfC c) (V : 1 ≤ c.vn) : WfS c 0 freshS := by
  have d0 := W.d0
  have m0 := W.m0
  refine (WfS.mk (h_T0 := by decide) (h_T1 := by decide) (h_t0 := by decide) (h_t1 := by decide) (h_s0 := by decide) (h_s1 := by decide) (h_v0 := by decide) (h_v1 := ?_) (h_a0 := by decide) (h_a1 := ?_) (h_p0 := by decide) (h_pv := ?_) (h_pa := fun _ => ?_) (h_p2 := fun h => absurd h (by decide)) (h_l0 := by decide) (h_l1 := ?_) (h_c0 := by decide) (h_c1 := by decide) (h_n0 := by decide) (h_n1 := by decide) (h_k0 := by decide) (h_k1 := by decide) (h_g0 := Or.inl rfl) (h_tr := fun h => absurd h (by decide)) (h_sq := fun h => absurd h (by decide)) (h_sl := fun h => absurd h (by decide)) (h_r0 := fun h => absurd h (by decide)) (h_r1 := fun h => absurd h (by decide)) (h_w0 := fun h => absurd h (by decide)) (h_w1 := fun h => absurd h (by decide)) (h_d0 := fun h => absurd h (by decide)) (h_d1 := fun h => absurd h (by decide)) (h_e0 := fun h => absurd h (by decide)) (h_e1 := fun h => absurd h (by decide)) (h_q0 := fun h => absurd h (by decide)) (h_q1 := fun h => absurd h (by decide)) (h_su0 := by decide) (h_su1 := by decide) (h_st0 := by decide) (h_st1 := by decide) (h_pl0 := by decide) (h_pl1 := by decide) (h_stalls0 := by decide) (h_stalls1 := by decide) (h_aband0 := by decide) (h_aband1 := by decide) (h_fin0 := by decide) (h_fin1 := by decide) (h_sw0 := by decide) (h_sw1 := by decide) (h_va := fun k hk => ?_) (h_aa := fun k hk => ?_) (h_sg := fun k hk => ?_) (h_sm := fun k hk => absurd hk (by show ¬ k < 0; omega)))
  · show (0 : Int) ≤ c.v 1; omega
  · show (0 : Int) ≤ c.v 1; omega
  · show (0 : Int) ≤ 0 * c.v 0; omega
  · show (0 : Int) ≤ 0 * c.v 0; omega
  · show (-1 : Int) < c.vn; omega
  · have hk : (k : Int) < 0 := hk; omega
  · have hk : (k : Int) < 0 := hk; omega
  · have hk : (k : Int) < 0 := hk; omega
