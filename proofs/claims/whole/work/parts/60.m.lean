/-! the reference's millisecond of a download -/
def shiftR (r : Nat → Int64) (m : Nat) : Nat → Int64 := fun j => if 26 ≤ j ∧ j ≤ 25 + m then r (j - 1) else if 36 ≤ j ∧ j ≤ 35 + m then r (j - 1) else r j
theorem shiftR_0 {r : Nat → Int64} : shiftR r 0 = r := by
  funext j; unfold shiftR; rw [if_neg (by omega), if_neg (by omega)]
theorem shiftR_S {r : Nat → Int64} {m : Nat} (hm : m < 9) : shiftR (vp_updL (vp_updL r (25 + (m + 1)) (r (25 + m))) (35 + (m + 1)) (r (35 + m))) m = shiftR r (m + 1) := by
  funext j
  unfold shiftR
  by_cases a : 26 ≤ j ∧ j ≤ 25 + (m + 1)
  · rw [if_pos a]
    by_cases b : j = 25 + (m + 1)
    · subst b
      rw [if_neg (by omega), if_neg (by omega), updL_ne (by omega), updL_eq]; congr 1
    · rw [if_pos (by omega), updL_ne (by omega), updL_ne (by omega)]
  · rw [if_neg a, if_neg (by omega)]
    by_cases a2 : 36 ≤ j ∧ j ≤ 35 + (m + 1)
    · rw [if_pos a2]
      by_cases b : j = 35 + (m + 1)
      · subst b
        rw [if_neg (by omega), updL_eq]; congr 1
      · rw [if_pos (by omega), updL_ne (by omega), updL_ne (by omega)]
    · rw [if_neg a2, if_neg (by omega), updL_ne (by omega), updL_ne (by omega)]
def endR (r : Nat → Int64) : Nat → Int64 :=
  let u3 := vp_updL (vp_updL r 25 (r 12)) 35 (r 10)
  vp_updL u3 24 (if 10 ≤ r 24 then r 24 + 0 else r 24 + 1)
theorem m_shift : ∀ (m g : Nat) (r : Nat → Int64) (l3 : Int32), l3.toInt = m → m < g → m ≤ 9 → f_X10_receives_b131 g r l3 = some (endR (shiftR r m))
  | 0, g + 1, r, l3, h3, hg, hm => by
    unfold f_X10_receives_b131 endR
    rw [shiftR_0, if_pos (by rw [le32, h3]; simp)]
    have e10 : vp_updL r 25 (r 12) 10 = r 10 := by (try simp (disch := omega) only [updL_ne, updL_eq])
    have e24 : vp_updL (vp_updL r 25 (r 12)) 35 (r 10) 24 = r 24 := by (try simp (disch := omega) only [updL_ne, updL_eq])
    simp only [bnd, e10, e24]
    split <;> rfl
  | m + 1, g + 1, r, l3, h3, hg, hm => by
    have e25 : (25 + l3).toInt = 25 + ((m + 1 : Nat) : Int) := by rw [add32 (by simp only [Int32.reduceToInt]; omega) (by simp only [Int32.reduceToInt]; omega), h3]; rfl
    have e35 : (35 + l3).toInt = 35 + ((m + 1 : Nat) : Int) := by rw [add32 (by simp only [Int32.reduceToInt]; omega) (by simp only [Int32.reduceToInt]; omega), h3]; rfl
    have f25 : (25 + l3 - 1).toInt = 25 + (m : Int) := by rw [sub32 (by simp only [Int32.reduceToInt]; omega) (by simp only [Int32.reduceToInt]; omega), e25]; simp only [Int32.reduceToInt]; omega
    have f35 : (35 + l3 - 1).toInt = 35 + (m : Int) := by rw [sub32 (by simp only [Int32.reduceToInt]; omega) (by simp only [Int32.reduceToInt]; omega), e35]; simp only [Int32.reduceToInt]; omega
    have n25 : (25 + l3).toNatClampNeg = 25 + (m + 1) := by rw [tn, e25]; omega
    have n35 : (35 + l3).toNatClampNeg = 35 + (m + 1) := by rw [tn, e35]; omega
    have o25 : (25 + l3 - 1).toNatClampNeg = 25 + m := by rw [tn, f25]; omega
    have o35 : (35 + l3 - 1).toNatClampNeg = 35 + m := by rw [tn, f35]; omega
    unfold f_X10_receives_b131
    rw [if_neg (by rw [le32, h3]; simp only [Int32.reduceToInt]; omega)]
    simp only [bnd]
    rw [grd_v (by omega) (by omega), grd_v (by omega) (by omega), grd_v (by omega) (by omega), grd_v (by omega) (by omega), n25, n35, o25, o35, updL_ne (f := r) (by omega)]
    rw [m_shift m g _ (l3 + (-1)) (by rw [add32 (by simp only [Int32.reduceToInt]; omega) (by simp only [Int32.reduceToInt]; omega), h3]; simp only [Int32.reduceToInt]; omega) (by omega) (by omega), shiftR_S (by omega)]
theorem end_at {r : Nat → Int64} {j : Nat} (h1 : j ≠ 25) (h2 : j ≠ 35) (h3 : j ≠ 24) (h4 : j < 26 ∨ 45 ≤ j) : endR (shiftR r 9) j = r j := by
  unfold endR
  rw [updL_ne h3, updL_ne h2, updL_ne h1]
  unfold shiftR
  rw [if_neg (by omega), if_neg (by omega)]
theorem end_b {r : Nat → Int64} {k : Nat} (hk : k < 10) : endR (shiftR r 9) (25 + k) = if k = 0 then r 12 else r (25 + (k - 1)) := by
  unfold endR
  rw [updL_ne (by omega), updL_ne (by omega)]
  by_cases h : k = 0
  · subst h
    rw [if_pos rfl, updL_eq]; unfold shiftR; rw [if_neg (by omega), if_neg (by omega)]
  · rw [if_neg h, updL_ne (by omega)]
    unfold shiftR
    rw [if_pos (by omega)]; congr 1; omega
theorem end_d {r : Nat → Int64} {k : Nat} (hk : k < 10) : endR (shiftR r 9) (35 + k) = if k = 0 then r 10 else r (35 + (k - 1)) := by
  unfold endR
  rw [updL_ne (by omega)]
  by_cases h : k = 0
  · subst h
    rw [if_pos rfl, updL_eq]; unfold shiftR; rw [if_neg (by omega), if_neg (by omega)]
  · rw [if_neg h, updL_ne (by omega), updL_ne (by omega)]
    unfold shiftR
    rw [if_neg (by omega), if_pos (by omega)]; congr 1; omega
theorem end_k {r : Nat → Int64} : endR (shiftR r 9) 24 = if 10 ≤ r 24 then r 24 + 0 else r 24 + 1 := by
  unfold endR
  have : shiftR r 9 24 = r 24 := by unfold shiftR; rw [if_neg (by omega), if_neg (by omega)]
  rw [updL_eq, this]
theorem putB_i {x : Int} {f : Nat → Int} {r : Nat → Int64} {y : Int64} {n : Int} (hy : y.toInt = x) (hr : ∀ k : Nat, (k : Int) < n → (r k).toInt = f k) {k : Nat} (hk : (k : Int) < n + 1) : (if k = 0 then y else r (k - 1)).toInt = putB x f k := by
  unfold putB
  by_cases h : k = 0
  · rw [if_pos h, if_pos h]; exact hy
  · rw [if_neg h, if_neg h]; exact hr _ (by omega)
def smpS (σ : Ss) (need dur : Int) : Ss := (Ss.mk (σ.time) (σ.pos) (σ.state) (σ.vs) (σ.as) (σ.going) (σ.track) (σ.seg) (σ.rung) (σ.wait) (σ.dur) (σ.got) (σ.need) (σ.last) (σ.chg) (σ.su) (σ.st) (σ.pl) (σ.stalls) (σ.aband) (σ.fin) (σ.sw) (σ.len) (min (σ.kept + 1) 10) (σ.wasted) (σ.qual) (σ.va) (σ.aa) (σ.sg) (putB need σ.bits) (putB dur σ.durs))
theorem m_end {c : Cf} {σ : Ss} {s : Nat → Int64} (R : RM c σ s) (G : σ.going = 0) (v1 : σ.vs ≤ 200) (a1 : σ.as ≤ 200) (k0 : 0 ≤ σ.kept) (k1 : σ.kept ≤ 10) (n1 : σ.len ≤ 300) {need dur : Int} (h1 : (s 12).toInt = need) (h2 : (s 10).toInt = dur) : RM c (smpS σ need dur) (endR (shiftR s 9)) := by
  have Rk := R.kept
  have ek : (if 10 ≤ s 24 then s 24 + 0 else s 24 + 1).toInt = min (σ.kept + 1) 10 := by
    by_cases q : 10 ≤ σ.kept
    · rw [if_pos (by rw [le64, Rk]; exact q), add64 (by rw [Rk]; simp only [Int64.reduceToInt]; omega) (by rw [Rk]; simp only [Int64.reduceToInt]; omega), Rk]; simp only [Int64.reduceToInt]; omega
    · rw [if_neg (by rw [le64, Rk]; exact q), add64 (by rw [Rk]; simp only [Int64.reduceToInt]; omega) (by rw [Rk]; simp only [Int64.reduceToInt]; omega), Rk]; simp only [Int64.reduceToInt]; omega
  have eb : ∀ k : Nat, (k : Int) < min (σ.kept + 1) 10 → (endR (shiftR s 9) (25 + k)).toInt = putB need σ.bits k := by
    intro k hk
    rw [end_b (by omega)]
    exact putB_i (n := σ.kept) (r := fun j => s (25 + j)) h1 (fun j hj => R.bits j hj) (by omega)
  have edd : ∀ k : Nat, (k : Int) < min (σ.kept + 1) 10 → (endR (shiftR s 9) (35 + k)).toInt = putB dur σ.durs k := by
    intro k hk
    rw [end_d (by omega)]
    exact putB_i (n := σ.kept) (r := fun j => s (35 + j)) h2 (fun j hj => R.durs j hj) (by omega)
  have ek2 : (endR (shiftR s 9) 24).toInt = min (σ.kept + 1) 10 := by rw [end_k]; exact ek
  exact (RM.mk (h_time := by { rw [end_at (by omega) (by omega) (by omega) (by omega)]; exact R.time }) (h_pos := by { rw [end_at (by omega) (by omega) (by omega) (by omega)]; exact R.pos }) (h_state := by { rw [end_at (by omega) (by omega) (by omega) (by omega)]; exact R.state }) (h_vs := by { rw [end_at (by omega) (by omega) (by omega) (by omega)]; exact R.vs }) (h_as := by { rw [end_at (by omega) (by omega) (by omega) (by omega)]; exact R.as }) (h_going := by { rw [end_at (by omega) (by omega) (by omega) (by omega)]; exact R.going }) (h_track := fun h => absurd (G.symm.trans h) (by decide)) (h_seg := fun h => absurd (G.symm.trans h) (by decide)) (h_rung := fun h => absurd (G.symm.trans h) (by decide)) (h_wait := fun h => absurd (G.symm.trans h) (by decide)) (h_dur := fun h => absurd (G.symm.trans h) (by decide)) (h_got := fun h => absurd (G.symm.trans h) (by decide)) (h_need := fun h => absurd (G.symm.trans h) (by decide)) (h_last := by { rw [end_at (by omega) (by omega) (by omega) (by omega)]; exact R.last }) (h_chg := by { rw [end_at (by omega) (by omega) (by omega) (by omega)]; exact R.chg }) (h_su := by { rw [end_at (by omega) (by omega) (by omega) (by omega)]; exact R.su }) (h_st := by { rw [end_at (by omega) (by omega) (by omega) (by omega)]; exact R.st }) (h_pl := by { rw [end_at (by omega) (by omega) (by omega) (by omega)]; exact R.pl }) (h_stalls := by { rw [end_at (by omega) (by omega) (by omega) (by omega)]; exact R.stalls }) (h_aband := by { rw [end_at (by omega) (by omega) (by omega) (by omega)]; exact R.aband }) (h_fin := by { rw [end_at (by omega) (by omega) (by omega) (by omega)]; exact R.fin }) (h_wasted := by { rw [end_at (by omega) (by omega) (by omega) (by omega)]; exact R.wasted }) (h_qual := by { rw [end_at (by omega) (by omega) (by omega) (by omega)]; exact R.qual }) (h_len := by { rw [end_at (by omega) (by omega) (by omega) (by omega)]; exact R.len }) (h_kept := ek2) (h_bits := eb) (h_durs := edd) (h_va := fun k hk => by { have hk : (k : Int) < σ.vs := hk; rw [end_at (by omega) (by omega) (by omega) (by omega)]; exact R.va k hk }) (h_aa := fun k hk => by { have hk : (k : Int) < σ.as := hk; rw [end_at (by omega) (by omega) (by omega) (by omega)]; exact R.aa k hk }) (h_sg := fun k hk => by { have hk : (k : Int) < σ.len := hk; rw [end_at (by omega) (by omega) (by omega) (by omega)]; exact R.sg k hk }))
def offS (σ : Ss) : Ss := (Ss.mk (σ.time) (σ.pos) (σ.state) (σ.vs) (σ.as) (0) (σ.track) (σ.seg) (σ.rung) (σ.wait) (σ.dur) (σ.got) (σ.need) (σ.last) (σ.chg) (σ.su) (σ.st) (σ.pl) (σ.stalls) (σ.aband) (σ.fin + 1) (σ.sw) (σ.len) (σ.kept) (σ.wasted) (σ.qual) (σ.va) (σ.aa) (σ.sg) (σ.bits) (σ.durs))
theorem m_rowV {c : Cf} {σ : Ss} {s : Nat → Int64} (R : RM c σ s) (G : σ.going = 1) (v0 : 0 ≤ σ.vs) (v1 : σ.vs ≤ 200) (a0 : 0 ≤ σ.as) (a1 : σ.as ≤ 200) (lt : σ.vs < 200) (k1 : σ.kept ≤ 10) (n1 : σ.len ≤ 300) (f0 : 0 ≤ σ.fin) (f1 : σ.fin ≤ 41000000) :
    RM c (doneV (offS σ)) (vp_updL (vp_updL (vp_updL (vp_updL s (50 + σ.vs.toNat) (s 8)) 3 (s 3 + 1)) 5 0) 20 (s 20 + 1)) := by
  have Rr := R.rung G
  have ef : (s 20 + 1).toInt = σ.fin + 1 := by rw [add64 (by rw [R.fin]; simp only [Int64.reduceToInt]; omega) (by rw [R.fin]; simp only [Int64.reduceToInt]; omega), R.fin]; rfl
  have ec : (s 3 + 1).toInt = σ.vs + 1 := by rw [add64 (by rw [R.vs]; simp only [Int64.reduceToInt]; omega) (by rw [R.vs]; simp only [Int64.reduceToInt]; omega), R.vs]; rfl
  have ea : ∀ k : Nat, (k : Int) < σ.vs + 1 → ((vp_updL (vp_updL (vp_updL (vp_updL s (50 + σ.vs.toNat) (s 8)) 3 (s 3 + 1)) 5 0) 20 (s 20 + 1)) (50 + k)).toInt = updI σ.va σ.vs.toNat σ.rung k := by
    intro k hk
    rw [updL_ne (by omega), updL_ne (by omega), updL_ne (by omega)]
    unfold updI
    by_cases e : k = σ.vs.toNat
    · rw [if_pos e, e, updL_eq]; exact Rr
    · rw [if_neg e, updL_ne (by omega)]; exact R.va k (by omega)
  exact (RM.mk (h_time := by { (try simp (disch := omega) only [updL_ne, updL_eq]); exact R.time }) (h_pos := by { (try simp (disch := omega) only [updL_ne, updL_eq]); exact R.pos }) (h_state := by { (try simp (disch := omega) only [updL_ne, updL_eq]); exact R.state }) (h_vs := by { (try simp (disch := omega) only [updL_ne, updL_eq]); exact ec }) (h_as := by { (try simp (disch := omega) only [updL_ne, updL_eq]); exact R.as }) (h_going := by { (try simp (disch := omega) only [updL_ne, updL_eq]); rfl }) (h_track := fun h => absurd h (by show ¬ (0 : Int) = 1; decide)) (h_seg := fun h => absurd h (by show ¬ (0 : Int) = 1; decide)) (h_rung := fun h => absurd h (by show ¬ (0 : Int) = 1; decide)) (h_wait := fun h => absurd h (by show ¬ (0 : Int) = 1; decide)) (h_dur := fun h => absurd h (by show ¬ (0 : Int) = 1; decide)) (h_got := fun h => absurd h (by show ¬ (0 : Int) = 1; decide)) (h_need := fun h => absurd h (by show ¬ (0 : Int) = 1; decide)) (h_last := by { (try simp (disch := omega) only [updL_ne, updL_eq]); exact R.last }) (h_chg := by { (try simp (disch := omega) only [updL_ne, updL_eq]); exact R.chg }) (h_su := by { (try simp (disch := omega) only [updL_ne, updL_eq]); exact R.su }) (h_st := by { (try simp (disch := omega) only [updL_ne, updL_eq]); exact R.st }) (h_pl := by { (try simp (disch := omega) only [updL_ne, updL_eq]); exact R.pl }) (h_stalls := by { (try simp (disch := omega) only [updL_ne, updL_eq]); exact R.stalls }) (h_aband := by { (try simp (disch := omega) only [updL_ne, updL_eq]); exact R.aband }) (h_fin := by { (try simp (disch := omega) only [updL_ne, updL_eq]); exact ef }) (h_wasted := by { (try simp (disch := omega) only [updL_ne, updL_eq]); exact R.wasted }) (h_qual := by { (try simp (disch := omega) only [updL_ne, updL_eq]); exact R.qual }) (h_len := by { (try simp (disch := omega) only [updL_ne, updL_eq]); exact R.len }) (h_kept := by { (try simp (disch := omega) only [updL_ne, updL_eq]); exact R.kept }) (h_bits := fun k hk => by { have hk : (k : Int) < σ.kept := hk; (try simp (disch := omega) only [updL_ne, updL_eq]); exact R.bits k hk }) (h_durs := fun k hk => by { have hk : (k : Int) < σ.kept := hk; (try simp (disch := omega) only [updL_ne, updL_eq]); exact R.durs k hk }) (h_va := ea) (h_aa := fun k hk => by { have hk : (k : Int) < σ.as := hk; (try simp (disch := omega) only [updL_ne, updL_eq]); exact R.aa k hk }) (h_sg := fun k hk => by { have hk : (k : Int) < σ.len := hk; (try simp (disch := omega) only [updL_ne, updL_eq]); exact R.sg k hk }))
theorem m_rowA {c : Cf} {σ : Ss} {s : Nat → Int64} (R : RM c σ s) (G : σ.going = 1) (v0 : 0 ≤ σ.vs) (v1 : σ.vs ≤ 200) (a0 : 0 ≤ σ.as) (a1 : σ.as ≤ 200) (lt : σ.as < 200) (k1 : σ.kept ≤ 10) (n1 : σ.len ≤ 300) (f0 : 0 ≤ σ.fin) (f1 : σ.fin ≤ 41000000) :
    RM c (doneA (offS σ)) (vp_updL (vp_updL (vp_updL (vp_updL s (250 + σ.as.toNat) (s 8)) 4 (s 4 + 1)) 5 0) 20 (s 20 + 1)) := by
  have Rr := R.rung G
  have ef : (s 20 + 1).toInt = σ.fin + 1 := by rw [add64 (by rw [R.fin]; simp only [Int64.reduceToInt]; omega) (by rw [R.fin]; simp only [Int64.reduceToInt]; omega), R.fin]; rfl
  have ec : (s 4 + 1).toInt = σ.as + 1 := by rw [add64 (by rw [R.as]; simp only [Int64.reduceToInt]; omega) (by rw [R.as]; simp only [Int64.reduceToInt]; omega), R.as]; rfl
  have ea : ∀ k : Nat, (k : Int) < σ.as + 1 → ((vp_updL (vp_updL (vp_updL (vp_updL s (250 + σ.as.toNat) (s 8)) 4 (s 4 + 1)) 5 0) 20 (s 20 + 1)) (250 + k)).toInt = updI σ.aa σ.as.toNat σ.rung k := by
    intro k hk
    rw [updL_ne (by omega), updL_ne (by omega), updL_ne (by omega)]
    unfold updI
    by_cases e : k = σ.as.toNat
    · rw [if_pos e, e, updL_eq]; exact Rr
    · rw [if_neg e, updL_ne (by omega)]; exact R.aa k (by omega)
  exact (RM.mk (h_time := by { (try simp (disch := omega) only [updL_ne, updL_eq]); exact R.time }) (h_pos := by { (try simp (disch := omega) only [updL_ne, updL_eq]); exact R.pos }) (h_state := by { (try simp (disch := omega) only [updL_ne, updL_eq]); exact R.state }) (h_vs := by { (try simp (disch := omega) only [updL_ne, updL_eq]); exact R.vs }) (h_as := by { (try simp (disch := omega) only [updL_ne, updL_eq]); exact ec }) (h_going := by { (try simp (disch := omega) only [updL_ne, updL_eq]); rfl }) (h_track := fun h => absurd h (by show ¬ (0 : Int) = 1; decide)) (h_seg := fun h => absurd h (by show ¬ (0 : Int) = 1; decide)) (h_rung := fun h => absurd h (by show ¬ (0 : Int) = 1; decide)) (h_wait := fun h => absurd h (by show ¬ (0 : Int) = 1; decide)) (h_dur := fun h => absurd h (by show ¬ (0 : Int) = 1; decide)) (h_got := fun h => absurd h (by show ¬ (0 : Int) = 1; decide)) (h_need := fun h => absurd h (by show ¬ (0 : Int) = 1; decide)) (h_last := by { (try simp (disch := omega) only [updL_ne, updL_eq]); exact R.last }) (h_chg := by { (try simp (disch := omega) only [updL_ne, updL_eq]); exact R.chg }) (h_su := by { (try simp (disch := omega) only [updL_ne, updL_eq]); exact R.su }) (h_st := by { (try simp (disch := omega) only [updL_ne, updL_eq]); exact R.st }) (h_pl := by { (try simp (disch := omega) only [updL_ne, updL_eq]); exact R.pl }) (h_stalls := by { (try simp (disch := omega) only [updL_ne, updL_eq]); exact R.stalls }) (h_aband := by { (try simp (disch := omega) only [updL_ne, updL_eq]); exact R.aband }) (h_fin := by { (try simp (disch := omega) only [updL_ne, updL_eq]); exact ef }) (h_wasted := by { (try simp (disch := omega) only [updL_ne, updL_eq]); exact R.wasted }) (h_qual := by { (try simp (disch := omega) only [updL_ne, updL_eq]); exact R.qual }) (h_len := by { (try simp (disch := omega) only [updL_ne, updL_eq]); exact R.len }) (h_kept := by { (try simp (disch := omega) only [updL_ne, updL_eq]); exact R.kept }) (h_bits := fun k hk => by { have hk : (k : Int) < σ.kept := hk; (try simp (disch := omega) only [updL_ne, updL_eq]); exact R.bits k hk }) (h_durs := fun k hk => by { have hk : (k : Int) < σ.kept := hk; (try simp (disch := omega) only [updL_ne, updL_eq]); exact R.durs k hk }) (h_va := fun k hk => by { have hk : (k : Int) < σ.vs := hk; (try simp (disch := omega) only [updL_ne, updL_eq]); exact R.va k hk }) (h_aa := ea) (h_sg := fun k hk => by { have hk : (k : Int) < σ.len := hk; (try simp (disch := omega) only [updL_ne, updL_eq]); exact R.sg k hk }))
theorem dv_eq : ∀ σ : Ss, smpS (doneV (offS σ)) σ.need σ.dur = doneV (doneS σ)
  | (a0, a1, a2, a3, a4, a5, a6, a7, a8, a9, a10, a11, a12, a13, a14, a15, a16, a17, a18, a19, a20, a21, a22, a23, a24, a25, a26, a27, a28, a29, a30) => rfl
theorem da_eq : ∀ σ : Ss, smpS (doneA (offS σ)) σ.need σ.dur = doneA (doneS σ)
  | (a0, a1, a2, a3, a4, a5, a6, a7, a8, a9, a10, a11, a12, a13, a14, a15, a16, a17, a18, a19, a20, a21, a22, a23, a24, a25, a26, a27, a28, a29, a30) => rfl
theorem bnd_p {α β : Type} {x : α} {k : α → β} : bnd x k = k x := congrFun (congrFun (rfl : @bnd α β = fun x k => k x) x) k
theorem nine : (9 : Int32).toInt = ((9 : Nat) : Int) := rfl
theorem m_done {c : Cf} {σ : Ss} {s : Nat → Int64} (R : RM c σ s) (G : σ.going = 1) (ht : σ.track = 0 ∨ σ.track = 1) (hs : σ.seg = if σ.track = 0 then σ.vs else σ.as) (hl : σ.seg < 200) (v0 : 0 ≤ σ.vs) (v1 : σ.vs ≤ 200) (a0 : 0 ≤ σ.as) (a1 : σ.as ≤ 200) (k0 : 0 ≤ σ.kept) (k1 : σ.kept ≤ 10) (n1 : σ.len ≤ 300) (f0 : 0 ≤ σ.fin) (f1 : σ.fin ≤ 41000000) (h : σ.need ≤ σ.got) :
    ∃ s', f_X10_receives_b68 s = some s' ∧ RM c (if σ.track = 0 then doneV (doneS σ) else doneA (doneS σ)) s' := by
  have Rt := R.track G
  have Rs := R.seg G
  have Rn := R.need G
  have Rg := R.got G
  have Rd := R.dur G
  have tt : (s 6).toInt32.toInt = σ.track := by rw [ti (by omega) (by omega), Rt]
  have ts : (s 7).toInt32.toInt = σ.seg := by rw [ti (by omega) (by omega), Rs]
  have t2 : (200 * (s 6).toInt32).toInt = 200 * σ.track := by rw [mul32 (by simp only [Int32.reduceToInt]; omega) (by simp only [Int32.reduceToInt]; omega), tt]; rfl
  have t3 : (50 + 200 * (s 6).toInt32).toInt = 50 + 200 * σ.track := by rw [add32 (by simp only [Int32.reduceToInt]; omega) (by simp only [Int32.reduceToInt]; omega), t2]; rfl
  have t4 : (50 + 200 * (s 6).toInt32 + (s 7).toInt32).toInt = 50 + 200 * σ.track + σ.seg := by rw [add32 (by omega) (by omega), t3, ts]
  have t5 : (3 + (s 6).toInt32).toInt = 3 + σ.track := by rw [add32 (by simp only [Int32.reduceToInt]; omega) (by simp only [Int32.reduceToInt]; omega), tt]; rfl
  have hs0 : 0 ≤ σ.seg := by split at hs <;> omega
  unfold f_X10_receives_b68
  generalize hg : ((((9 : Int32).toInt + 1).toNat) + 1) = g
  have hg' : 9 < g := by rw [← hg, nine]; omega
  generalize hn : (9 : Int32) = i9
  have hn' : i9.toInt = ((9 : Nat) : Int) := by rw [← hn]; exact nine
  clear hg hn
  rw [if_pos (by rw [le64]; omega), grd_v (by omega) (by omega)]
  simp only [bnd_p]
  rw [grd_v (by omega) (by omega), grd_v (by omega) (by omega), m_shift 9 g _ i9 hn' hg' (Nat.le_refl 9), tn, tn, t4, t5]
  refine ⟨_, rfl, ?_⟩
  rcases ht with e | e
  · rw [if_pos e] at hs
    rw [if_pos e]
    have i1 : (50 + 200 * σ.track + σ.seg).toNat = 50 + σ.vs.toNat := by omega
    have i2 : (3 + σ.track).toNat = 3 := by omega
    rw [i1, i2]
    have e3 : vp_updL s (50 + σ.vs.toNat) (s 8) 3 = s 3 := by (try simp (disch := omega) only [updL_ne, updL_eq])
    rw [e3]
    have e20 : vp_updL (vp_updL (vp_updL s (50 + σ.vs.toNat) (s 8)) 3 (s 3 + 1)) 5 0 20 = s 20 := by (try simp (disch := omega) only [updL_ne, updL_eq])
    rw [e20]
    rw [← dv_eq σ]
    exact m_end (m_rowV R G v0 v1 a0 a1 (by omega) k1 n1 f0 f1) rfl (by show σ.vs + 1 ≤ 200; omega) a1 k0 k1 n1 (by (try simp (disch := omega) only [updL_ne, updL_eq]); exact Rn) (by (try simp (disch := omega) only [updL_ne, updL_eq]); exact Rd)
  · rw [if_neg (by omega)] at hs
    rw [if_neg (by omega)]
    have i1 : (50 + 200 * σ.track + σ.seg).toNat = 250 + σ.as.toNat := by omega
    have i2 : (3 + σ.track).toNat = 4 := by omega
    rw [i1, i2]
    have e3 : vp_updL s (250 + σ.as.toNat) (s 8) 4 = s 4 := by (try simp (disch := omega) only [updL_ne, updL_eq])
    rw [e3]
    have e20 : vp_updL (vp_updL (vp_updL s (250 + σ.as.toNat) (s 8)) 4 (s 4 + 1)) 5 0 20 = s 20 := by (try simp (disch := omega) only [updL_ne, updL_eq])
    rw [e20]
    rw [← da_eq σ]
    exact m_end (m_rowA R G v0 v1 a0 a1 (by omega) k1 n1 f0 f1) rfl v1 (by show σ.as + 1 ≤ 200; omega) k0 k1 n1 (by (try simp (disch := omega) only [updL_ne, updL_eq]); exact Rn) (by (try simp (disch := omega) only [updL_ne, updL_eq]); exact Rd)
theorem m_recv {c : Cf} {σ : Ss} (W : WfC c) {T : Int} (S : WfS c T σ) (G : σ.going = 1) {p la ra : Nat → Int32} {ph : Int32} {ln fl : Nat → Int32} (K : CM c p la ra ph ln fl) {s : Nat → Int64} (R : RM c σ s) : ∃ s', f_X10_receives ph fl ln s = some s' ∧ RM c (recvS c σ) s' := by
  have gb := gotS_b W S G
  have T1 := S.T1
  have t0 := S.t0
  have w0 := S.w0 G
  have w1 := S.w1 G
  have d0 := S.d0 G
  have d1 := S.d1 G
  have q0 := S.q0 G
  have q1 := S.q1 G
  have e0 := S.e0 G
  have e1 := S.e1 G
  have k0 := S.k0
  have k1 := S.k1
  have v0 := S.v0
  have v1 := S.v1
  have a0 := S.a0
  have a1 := S.a1
  have n1 := S.n1
  have f0 := S.fin0
  have f1 := S.fin1
  have m1 := W.m1
  have sq := S.sq G
  have sl := S.sl G
  have htr := S.tr G
  have Rw := R.wait G
  have Rd := R.dur G
  have Rg := R.got G
  have Rn := R.need G
  have fb := flowS_b W (t := σ.time)
  obtain ⟨z, hz, ez⟩ := m_flow W (t := s 0) K.ph K.ln K.fl (by rw [R.time]; exact t0)
  rw [R.time] at ez
  have ed : (s 10 + 1).toInt = σ.dur + 1 := by rw [add64 (by simp only [Int64.reduceToInt]; omega) (by simp only [Int64.reduceToInt]; omega), Rd]; rfl
  have fin : ∀ s', RM c (partS c σ) s' → ∃ s'', f_X10_receives_b68 s' = some s'' ∧ RM c (recvS c σ) s'' := by
    intro s' R'
    unfold recvS
    by_cases h : gotS c σ < σ.need
    · rw [if_pos h]
      have n' := R'.need G
      have g' := R'.got G
      have g2 : (partS c σ).got = gotS c σ := rfl
      have g3 : (partS c σ).need = σ.need := rfl
      unfold f_X10_receives_b68
      rw [if_neg (by rw [le64]; omega)]
      exact ⟨_, rfl, R'⟩
    · rw [if_neg h]
      exact m_done R' G htr sq (by show σ.seg < 200; omega) v0 (by show σ.vs ≤ 200; omega) a0 (by show σ.as ≤ 200; omega) k0 k1 n1 f0 (by show σ.fin ≤ 41000000; omega) (by show σ.need ≤ gotS c σ; omega)
  unfold f_X10_receives
  simp only [bnd]
  have x9 : vp_updL s 10 (s 10 + 1) 9 = s 9 := by (try simp (disch := omega) only [updL_ne, updL_eq])
  have x0 : vp_updL s 10 (s 10 + 1) 0 = s 0 := by (try simp (disch := omega) only [updL_ne, updL_eq])
  have x12 : vp_updL s 10 (s 10 + 1) 12 = s 12 := by (try simp (disch := omega) only [updL_ne, updL_eq])
  have x11 : vp_updL s 10 (s 10 + 1) 11 = s 11 := by (try simp (disch := omega) only [updL_ne, updL_eq])
  rw [x9, x0, x12, x11]
  by_cases h : 0 < σ.wait
  · rw [if_neg (by rw [le64]; simp only [Int64.reduceToInt]; omega)]
    have ew : (s 9 - 1).toInt = σ.wait - 1 := by rw [sub64 (by simp only [Int64.reduceToInt]; omega) (by simp only [Int64.reduceToInt]; omega), Rw]; rfl
    refine fin _ (RM.mk (h_time := by { (try simp (disch := omega) only [updL_ne, updL_eq]); exact R.time }) (h_pos := by { (try simp (disch := omega) only [updL_ne, updL_eq]); exact R.pos }) (h_state := by { (try simp (disch := omega) only [updL_ne, updL_eq]); exact R.state }) (h_vs := by { (try simp (disch := omega) only [updL_ne, updL_eq]); exact R.vs }) (h_as := by { (try simp (disch := omega) only [updL_ne, updL_eq]); exact R.as }) (h_going := by { (try simp (disch := omega) only [updL_ne, updL_eq]); exact R.going }) (h_track := fun h => by { (try simp (disch := omega) only [updL_ne, updL_eq]); exact R.track h }) (h_seg := fun h => by { (try simp (disch := omega) only [updL_ne, updL_eq]); exact R.seg h }) (h_rung := fun h => by { (try simp (disch := omega) only [updL_ne, updL_eq]); exact R.rung h }) (h_wait := fun _ => by { (try simp (disch := omega) only [updL_ne, updL_eq]); show (s 9 - 1).toInt = waitS σ; unfold waitS; rw [if_pos h]; exact ew }) (h_dur := fun _ => by { (try simp (disch := omega) only [updL_ne, updL_eq]); exact ed }) (h_got := fun h' => by { (try simp (disch := omega) only [updL_ne, updL_eq]); show (s 11).toInt = gotS c σ; unfold gotS; rw [if_pos h]; exact Rg }) (h_need := fun h => by { (try simp (disch := omega) only [updL_ne, updL_eq]); exact R.need h }) (h_last := by { (try simp (disch := omega) only [updL_ne, updL_eq]); exact R.last }) (h_chg := by { (try simp (disch := omega) only [updL_ne, updL_eq]); exact R.chg }) (h_su := by { (try simp (disch := omega) only [updL_ne, updL_eq]); exact R.su }) (h_st := by { (try simp (disch := omega) only [updL_ne, updL_eq]); exact R.st }) (h_pl := by { (try simp (disch := omega) only [updL_ne, updL_eq]); exact R.pl }) (h_stalls := by { (try simp (disch := omega) only [updL_ne, updL_eq]); exact R.stalls }) (h_aband := by { (try simp (disch := omega) only [updL_ne, updL_eq]); exact R.aband }) (h_fin := by { (try simp (disch := omega) only [updL_ne, updL_eq]); exact R.fin }) (h_wasted := by { (try simp (disch := omega) only [updL_ne, updL_eq]); exact R.wasted }) (h_qual := by { (try simp (disch := omega) only [updL_ne, updL_eq]); exact R.qual }) (h_len := by { (try simp (disch := omega) only [updL_ne, updL_eq]); exact R.len }) (h_kept := by { (try simp (disch := omega) only [updL_ne, updL_eq]); exact R.kept }) (h_bits := fun k hk => by { have hk : (k : Int) < σ.kept := hk; (try simp (disch := omega) only [updL_ne, updL_eq]); exact R.bits k hk }) (h_durs := fun k hk => by { have hk : (k : Int) < σ.kept := hk; (try simp (disch := omega) only [updL_ne, updL_eq]); exact R.durs k hk }) (h_va := fun k hk => by { have hk : (k : Int) < σ.vs := hk; (try simp (disch := omega) only [updL_ne, updL_eq]); exact R.va k hk }) (h_aa := fun k hk => by { have hk : (k : Int) < σ.as := hk; (try simp (disch := omega) only [updL_ne, updL_eq]); exact R.aa k hk }) (h_sg := fun k hk => by { have hk : (k : Int) < σ.len := hk; (try simp (disch := omega) only [updL_ne, updL_eq]); exact R.sg k hk }))
  · rw [if_pos (by rw [le64]; simp only [Int64.reduceToInt]; omega), hz, obnd_some]
    have ex : (s 12 - s 11).toInt = σ.need - σ.got := by rw [sub64 (by omega) (by omega), Rn, Rg]
    have go : ∀ y : Int64, y.toInt = min (flowS c σ.time) (σ.need - σ.got) → ∃ s'', f_X10_receives_b66 (vp_updL s 10 (s 10 + 1)) 11 (s 11) y = some s'' ∧ RM c (recvS c σ) s'' := by
      intro y hy
      have es : (s 11 + y).toInt = gotS c σ := by unfold gotS; rw [if_neg h, add64 (by omega) (by omega), Rg, hy]
      have n11 : (11 : Int32).toNatClampNeg = 11 := rfl
      unfold f_X10_receives_b66
      rw [grd_v (by decide) (by decide), n11]
      simp only [bnd]
      exact fin _ (RM.mk (h_time := by { (try simp (disch := omega) only [updL_ne, updL_eq]); exact R.time }) (h_pos := by { (try simp (disch := omega) only [updL_ne, updL_eq]); exact R.pos }) (h_state := by { (try simp (disch := omega) only [updL_ne, updL_eq]); exact R.state }) (h_vs := by { (try simp (disch := omega) only [updL_ne, updL_eq]); exact R.vs }) (h_as := by { (try simp (disch := omega) only [updL_ne, updL_eq]); exact R.as }) (h_going := by { (try simp (disch := omega) only [updL_ne, updL_eq]); exact R.going }) (h_track := fun h => by { (try simp (disch := omega) only [updL_ne, updL_eq]); exact R.track h }) (h_seg := fun h => by { (try simp (disch := omega) only [updL_ne, updL_eq]); exact R.seg h }) (h_rung := fun h => by { (try simp (disch := omega) only [updL_ne, updL_eq]); exact R.rung h }) (h_wait := fun h' => by { (try simp (disch := omega) only [updL_ne, updL_eq]); show (s 9).toInt = waitS σ; unfold waitS; rw [if_neg h]; exact Rw }) (h_dur := fun _ => by { (try simp (disch := omega) only [updL_ne, updL_eq]); exact ed }) (h_got := fun h' => by { (try simp (disch := omega) only [updL_ne, updL_eq]); exact es }) (h_need := fun h => by { (try simp (disch := omega) only [updL_ne, updL_eq]); exact R.need h }) (h_last := by { (try simp (disch := omega) only [updL_ne, updL_eq]); exact R.last }) (h_chg := by { (try simp (disch := omega) only [updL_ne, updL_eq]); exact R.chg }) (h_su := by { (try simp (disch := omega) only [updL_ne, updL_eq]); exact R.su }) (h_st := by { (try simp (disch := omega) only [updL_ne, updL_eq]); exact R.st }) (h_pl := by { (try simp (disch := omega) only [updL_ne, updL_eq]); exact R.pl }) (h_stalls := by { (try simp (disch := omega) only [updL_ne, updL_eq]); exact R.stalls }) (h_aband := by { (try simp (disch := omega) only [updL_ne, updL_eq]); exact R.aband }) (h_fin := by { (try simp (disch := omega) only [updL_ne, updL_eq]); exact R.fin }) (h_wasted := by { (try simp (disch := omega) only [updL_ne, updL_eq]); exact R.wasted }) (h_qual := by { (try simp (disch := omega) only [updL_ne, updL_eq]); exact R.qual }) (h_len := by { (try simp (disch := omega) only [updL_ne, updL_eq]); exact R.len }) (h_kept := by { (try simp (disch := omega) only [updL_ne, updL_eq]); exact R.kept }) (h_bits := fun k hk => by { have hk : (k : Int) < σ.kept := hk; (try simp (disch := omega) only [updL_ne, updL_eq]); exact R.bits k hk }) (h_durs := fun k hk => by { have hk : (k : Int) < σ.kept := hk; (try simp (disch := omega) only [updL_ne, updL_eq]); exact R.durs k hk }) (h_va := fun k hk => by { have hk : (k : Int) < σ.vs := hk; (try simp (disch := omega) only [updL_ne, updL_eq]); exact R.va k hk }) (h_aa := fun k hk => by { have hk : (k : Int) < σ.as := hk; (try simp (disch := omega) only [updL_ne, updL_eq]); exact R.aa k hk }) (h_sg := fun k hk => by { have hk : (k : Int) < σ.len := hk; (try simp (disch := omega) only [updL_ne, updL_eq]); exact R.sg k hk }))
    by_cases q : σ.need - σ.got ≤ flowS c σ.time
    · rw [if_pos (by rw [le64, tl]; omega)]
      exact go _ (by rw [ex]; omega)
    · rw [if_neg (by rw [le64, tl]; omega)]
      exact go _ (by rw [tl, ez]; omega)
