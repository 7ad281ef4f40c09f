/-! the settings by the script -/
def cel (xs : Nat → Int32) (L : Nat) (k : Int32) : Int32 := if Int32.ofNat L ≤ k then 763049417 * (k + 3) else xs k.toNatClampNeg
theorem cel_e {xs : Nat → Int32} {L : Nat} (hL : L ≤ 260) {k : Int32} (h0 : 0 ≤ k.toInt) : f_L_cell xs L k = some (cel xs L k) := by
  have eL : (Int32.ofNat L).toInt = (L : Int) := nI_toInt (by omega)
  unfold f_L_cell cel
  by_cases q : Int32.ofNat L ≤ k
  · rw [if_pos q, if_pos q]
  · rw [if_neg q, if_neg q, grd_v h0 (by rw [le32] at q; omega)]
def upv (x m : Int32) : Int32 := rm32 (x &&& 2147483647) m
theorem and_nn (x : Int32) : 0 ≤ (x &&& 2147483647).toInt := by
  obtain ⟨j, hj, e⟩ := pk_andE x (m := 2147483647) 31 (by decide)
  rw [e, nI_toInt (by omega)]
  omega
theorem upv_e {x m : Int32} (h : 0 < m.toInt) : f_L_up x m = some (upv x m) := by
  unfold f_L_up
  rw [grd_m (by omega)]; rfl
theorem upv_b {x m : Int32} (h : 0 < m.toInt) : 0 ≤ (upv x m).toInt ∧ (upv x m).toInt < m.toInt := by
  unfold upv
  rw [rem32 (and_nn x) h]
  exact ⟨Int.emod_nonneg _ (by omega), Int.emod_lt_of_pos _ h⟩
def addV (c : Cf) (x : Int) : Cf := Cf.mk c.v (c.vn + 1) c.an c.ph c.tot (updI c.vr c.vn.toNat x) c.ar c.ln c.fl
def addA (c : Cf) (x : Int) : Cf := Cf.mk c.v c.vn (c.an + 1) c.ph c.tot c.vr (updI c.ar c.an.toNat x) c.ln c.fl
def addP (c : Cf) (x y : Int) : Cf := Cf.mk c.v c.vn c.an (c.ph + 1) c.tot c.vr c.ar (updI c.ln c.ph.toNat x) (updI c.fl c.ph.toNat y)
theorem updI_r {f : Nat → Int} {n : Int} {x a b : Int} (n0 : 0 ≤ n) (hx : a ≤ x ∧ x ≤ b) (h : ∀ k : Nat, (k : Int) < n → a ≤ f k ∧ f k ≤ b) : ∀ k : Nat, (k : Int) < n + 1 → a ≤ updI f n.toNat x k ∧ updI f n.toNat x k ≤ b := fun k hk => by
  unfold updI
  split
  · exact hx
  · exact h k (by omega)
theorem upd_e {f : Nat → Int32} {g : Nat → Int} {n : Int} {m : Int32} {x : Int32} (hm : m.toInt = n) (h : ∀ k : Nat, (k : Int) < n → (f k).toInt = g k) : ∀ k : Nat, (k : Int) < n + 1 → (upd f m.toNatClampNeg x k).toInt = updI g n.toNat x.toInt k := fun k hk => by
  unfold upd updI
  rw [tn, hm]
  split
  · rfl
  · exact h k (by omega)
theorem wf_addV {c : Cf} (W : WfC c) {x : Int} (h : c.vn < 6) (hx : 1 ≤ x ∧ x ≤ 50000) : WfC (addV c x) := by
  have v0 := W.vn0
  exact WfC.mk (h_d0 := W.d0) (h_d1 := W.d1) (h_m0 := W.m0) (h_m1 := W.m1) (h_a2 := W.a2) (h_b2 := W.b2) (h_a3 := W.a3) (h_b3 := W.b3) (h_a4 := W.a4) (h_b4 := W.b4) (h_a5 := W.a5) (h_b5 := W.b5) (h_a6 := W.a6) (h_b6 := W.b6) (h_a7 := W.a7) (h_b7 := W.b7) (h_a8 := W.a8) (h_b8 := W.b8) (h_a9 := W.a9) (h_b9 := W.b9) (h_a10 := W.a10) (h_b10 := W.b10) (h_a11 := W.a11) (h_b11 := W.b11) (h_a12 := W.a12) (h_b12 := W.b12) (h_a13 := W.a13) (h_b13 := W.b13) (h_a14 := W.a14) (h_b14 := W.b14) (h_vn0 := (show 0 ≤ c.vn + 1 by omega)) (h_vn1 := (show c.vn + 1 ≤ 6 by omega)) (h_an0 := W.an0) (h_an1 := W.an1) (h_ph0 := W.ph0) (h_ph1 := W.ph1) (h_vr0 := updI_r v0 hx W.vr0) (h_ar0 := W.ar0) (h_ln0 := W.ln0) (h_fl0 := W.fl0)
theorem wf_addA {c : Cf} (W : WfC c) {x : Int} (h : c.an < 3) (hx : 1 ≤ x ∧ x ≤ 50000) : WfC (addA c x) := by
  have v0 := W.an0
  exact WfC.mk (h_d0 := W.d0) (h_d1 := W.d1) (h_m0 := W.m0) (h_m1 := W.m1) (h_a2 := W.a2) (h_b2 := W.b2) (h_a3 := W.a3) (h_b3 := W.b3) (h_a4 := W.a4) (h_b4 := W.b4) (h_a5 := W.a5) (h_b5 := W.b5) (h_a6 := W.a6) (h_b6 := W.b6) (h_a7 := W.a7) (h_b7 := W.b7) (h_a8 := W.a8) (h_b8 := W.b8) (h_a9 := W.a9) (h_b9 := W.b9) (h_a10 := W.a10) (h_b10 := W.b10) (h_a11 := W.a11) (h_b11 := W.b11) (h_a12 := W.a12) (h_b12 := W.b12) (h_a13 := W.a13) (h_b13 := W.b13) (h_a14 := W.a14) (h_b14 := W.b14) (h_vn0 := W.vn0) (h_vn1 := W.vn1) (h_an0 := (show 0 ≤ c.an + 1 by omega)) (h_an1 := (show c.an + 1 ≤ 3 by omega)) (h_ph0 := W.ph0) (h_ph1 := W.ph1) (h_vr0 := W.vr0) (h_ar0 := updI_r v0 hx W.ar0) (h_ln0 := W.ln0) (h_fl0 := W.fl0)
theorem wf_addP {c : Cf} (W : WfC c) {x y : Int} (h : c.ph < 20) (hx : 1 ≤ x ∧ x ≤ 100000) (hy : 0 ≤ y ∧ y ≤ 100000) : WfC (addP c x y) := by
  have v0 := W.ph0
  exact WfC.mk (h_d0 := W.d0) (h_d1 := W.d1) (h_m0 := W.m0) (h_m1 := W.m1) (h_a2 := W.a2) (h_b2 := W.b2) (h_a3 := W.a3) (h_b3 := W.b3) (h_a4 := W.a4) (h_b4 := W.b4) (h_a5 := W.a5) (h_b5 := W.b5) (h_a6 := W.a6) (h_b6 := W.b6) (h_a7 := W.a7) (h_b7 := W.b7) (h_a8 := W.a8) (h_b8 := W.b8) (h_a9 := W.a9) (h_b9 := W.b9) (h_a10 := W.a10) (h_b10 := W.b10) (h_a11 := W.a11) (h_b11 := W.b11) (h_a12 := W.a12) (h_b12 := W.b12) (h_a13 := W.a13) (h_b13 := W.b13) (h_a14 := W.a14) (h_b14 := W.b14) (h_vn0 := W.vn0) (h_vn1 := W.vn1) (h_an0 := W.an0) (h_an1 := W.an1) (h_ph0 := (show 0 ≤ c.ph + 1 by omega)) (h_ph1 := (show c.ph + 1 ≤ 20 by omega)) (h_vr0 := W.vr0) (h_ar0 := W.ar0) (h_ln0 := updI_r v0 hx W.ln0) (h_fl0 := updI_r v0 hy W.fl0)
/-- what the settings come to: the length, and a stream whose settings are told by d -/
def DoneS (v : Nat → Int) (va8 : Nat → Int32) (l4 : Int32) (na np : Int) (r : Option (Int32 × Int32 × (Nat → Int32) × Int32 × Int32 × (Nat → Int32) × (Nat → Int32) × (Nat → Int32) × Int32 × (Nat → Int32))) : Prop :=
  ∃ an ar tot ph ln fl vn vr, ∃ c : Cf, r = some (l4, an, ar, tot, ph, ln, fl, va8, vn, vr) ∧ WfC c ∧ CC c va8 vn vr an ar tot ph ln fl ∧ c.v = v ∧ 1 ≤ c.vn ∧ c.an = na ∧ c.ph = np
theorem z_a (x : Int32) : (0 : Int32) + ((x + 1 - 1) - x) = 0 := by rw [Int32.add_sub_cancel, Int32.sub_self]; rfl
theorem z_b (x : Int32) : (0 : Int32) + ((x + 1 - x) - 1) = 0 := by rw [Int32.add_comm x 1, Int32.add_sub_cancel, Int32.sub_self]; rfl
theorem s407 {xs : Nat → Int32} {L : Nat} (hL : L ≤ 260) {va8 : Nat → Int32} {l4 : Int32} : ∀ (m k g : Nat) (c : Cf) {vn : Int32} {vr : Nat → Int32} {an : Int32} {ar : Nat → Int32} {tot ph : Int32} {ln fl : Nat → Int32} (l7 : Int32), WfC c → CC c va8 vn vr an ar tot ph ln fl → 1 ≤ c.vn → c.ph = k → l7.toInt = k → (k : Int) + m = ((1 : Int) + (upv (cel xs L 3 >>> (8 &&& 31)) 4).toInt) → m < g → DoneS c.v va8 l4 c.an ((1 : Int) + (upv (cel xs L 3 >>> (8 &&& 31)) 4).toInt) (f_L_settings_b407 0 xs L g an ar tot ph ln fl va8 vn vr l4 0 l7)
  | 0, k, g + 1, c, vn, vr, an, ar, tot, ph, ln, fl, l7, W, K, V, hp, h7, hk, hg => by
    have b := upv_b (x := cel xs L 3 >>> (8 &&& 31)) (m := 4) (by decide)
    simp only [Int32.reduceToInt] at b
    have e : ((1 : Int32) + upv (cel xs L 3 >>> (8 &&& 31)) 4).toInt = ((1 : Int) + (upv (cel xs L 3 >>> (8 &&& 31)) 4).toInt) := by rw [add32 (by simp only [Int32.reduceToInt]; omega) (by simp only [Int32.reduceToInt]; omega)]; rfl
    unfold f_L_settings_b407
    rw [cel_e hL (by decide), obnd_some, upv_e (by decide), obnd_some, if_pos (by rw [le32, e]; omega), if_pos rfl]
    exact ⟨an, ar, tot, ph, ln, fl, vn, vr, c, rfl, W, K, rfl, V, rfl, by omega⟩
  | m + 1, k, g + 1, c, vn, vr, an, ar, tot, ph, ln, fl, l7, W, K, V, hp, h7, hk, hg => by
    have b := upv_b (x := cel xs L 3 >>> (8 &&& 31)) (m := 4) (by decide)
    simp only [Int32.reduceToInt] at b
    have e : ((1 : Int32) + upv (cel xs L 3 >>> (8 &&& 31)) 4).toInt = ((1 : Int) + (upv (cel xs L 3 >>> (8 &&& 31)) 4).toInt) := by rw [add32 (by simp only [Int32.reduceToInt]; omega) (by simp only [Int32.reduceToInt]; omega)]; rfl
    have b1 := upv_b (x := cel xs L (10 + l7)) (m := 4000) (by decide)
    have b2 := upv_b (x := cel xs L (10 + l7) >>> (12 &&& 31)) (m := 300) (by decide)
    simp only [Int32.reduceToInt] at b1 b2
    have e1 : ((1 : Int32) + upv (cel xs L (10 + l7)) 4000).toInt = 1 + (upv (cel xs L (10 + l7)) 4000).toInt := by rw [add32 (by simp only [Int32.reduceToInt]; omega) (by simp only [Int32.reduceToInt]; omega)]; rfl
    have e10 : (10 + l7).toInt = 10 + l7.toInt := by rw [add32 (by simp only [Int32.reduceToInt]; omega) (by simp only [Int32.reduceToInt]; omega)]; rfl
    have e7 : (l7 + 1).toInt = ((k + 1 : Nat) : Int) := by rw [add32 (by simp only [Int32.reduceToInt]; omega) (by simp only [Int32.reduceToInt]; omega), h7]; rfl
    have Kp := K.ph
    have Kt := K.tot
    have eph : ph = l7 := by rw [eq32]; omega
    have ap := c_addP (tot := tot) (ph := ph) (ln := ln) (fl := fl) (p1 := 1 + upv (cel xs L (10 + l7)) 4000) (p2 := upv (cel xs L (10 + l7) >>> (12 &&& 31)) 300) (by omega) (by omega) (by omega) (by omega)
    unfold f_L_settings_b407
    rw [cel_e hL (by decide), obnd_some, upv_e (by decide), obnd_some, if_neg (by rw [le32, e]; omega), grd_v (by omega) (by omega), cel_e hL (by omega), obnd_some, upv_e (by decide), obnd_some, obnd_some, upv_e (by decide), obnd_some, ap, b6_s, if_pos rfl]
    have ez : (0 : Int32) + ((ph + 1 - l7) - 1) = 0 := by rw [eph]; exact z_b l7
    rw [ez]
    have ex : (ph + 1).toInt = c.ph + 1 := by rw [add32 (by simp only [Int32.reduceToInt]; omega) (by simp only [Int32.reduceToInt]; omega), Kp]; rfl
    have sb := sum_b (f := c.ln) (B := 100000) c.ph.toNat (fun k hk => W.ln0 k (by omega))
    have e3 : (tot + ((1 : Int32) + upv (cel xs L (10 + l7)) 4000)).toInt = sumN c.ln c.ph.toNat + ((1 : Int32) + upv (cel xs L (10 + l7)) 4000).toInt := by rw [add32 (by omega) (by omega), Kt]
    have e4 : (c.ph + 1).toNat = c.ph.toNat + 1 := by omega
    have su : ∀ n : Nat, n ≤ c.ph.toNat → sumN (updI c.ln c.ph.toNat ((1 : Int32) + upv (cel xs L (10 + l7)) 4000).toInt) n = sumN c.ln n := fun n => by
      induction n with
      | zero => intro _; rfl
      | succ n ih => intro hn; unfold sumN; rw [ih (by omega)]; unfold updI; rw [if_neg (by omega)]
    refine s407 hL m (k + 1) g (addP c ((1 : Int32) + upv (cel xs L (10 + l7)) 4000).toInt (upv (cel xs L (10 + l7) >>> (12 &&& 31)) 300).toInt) (l7 + 1) (wf_addP W (by omega) (by omega) (by omega)) ?_ V (by show c.ph + 1 = _; omega) e7 (by omega) (by omega)
    refine CC.mk (h_v := K.v) (h_vn := K.vn) (h_an := K.an) (h_ph := ex) (h_tot := ?_) (h_vr := K.vr) (h_ar := K.ar) (h_ln := upd_e Kp K.ln) (h_fl := upd_e Kp K.fl)
    show (tot + ((1 : Int32) + upv (cel xs L (10 + l7)) 4000)).toInt = sumN (updI c.ln c.ph.toNat ((1 : Int32) + upv (cel xs L (10 + l7)) 4000).toInt) (c.ph + 1).toNat
    rw [e3, e4, sumN, su _ (Nat.le_refl _)]
    unfold updI
    rw [if_pos rfl]
theorem topI_add {n : Int} {f : Nat → Int} {x : Int} (h : 0 ≤ n) : topI (n + 1) (updI f n.toNat x) = x := by
  unfold topI updI
  rw [if_neg (by omega), if_pos (by omega)]
theorem s362 {xs : Nat → Int32} {L : Nat} (hL : L ≤ 260) {va8 : Nat → Int32} {l4 : Int32} : ∀ (m k g : Nat) (c : Cf) {vn : Int32} {vr : Nat → Int32} {an : Int32} {ar : Nat → Int32} {tot ph : Int32} {ln fl : Nat → Int32} (l7 : Int32), WfC c → CC c va8 vn vr an ar tot ph ln fl → 1 ≤ c.vn → c.ph = 0 → c.an = k → l7.toInt = k → (k : Int) + m = (upv (cel xs L 3 >>> (4 &&& 31)) 4).toInt → topI c.an c.ar < 1 + 10 * (k : Int) → m < g → DoneS c.v va8 l4 (upv (cel xs L 3 >>> (4 &&& 31)) 4).toInt ((1 : Int) + (upv (cel xs L 3 >>> (8 &&& 31)) 4).toInt) (f_L_settings_b362 0 3 6 xs L g an ar tot ph ln fl va8 vn vr l4 0 l7)
  | 0, k, g + 1, c, vn, vr, an, ar, tot, ph, ln, fl, l7, W, K, V, hp, ha, h7, hk, htop, hg => by
    have b := upv_b (x := cel xs L 3 >>> (8 &&& 31)) (m := 4) (by decide)
    have b4 := upv_b (x := cel xs L 3 >>> (4 &&& 31)) (m := 4) (by decide)
    simp only [Int32.reduceToInt] at b b4
    unfold f_L_settings_b362
    rw [cel_e hL (by decide), obnd_some, upv_e (by decide), obnd_some, if_pos (by rw [le32]; omega)]
    have fin := s407 (xs := xs) (l4 := l4) hL (((1 : Int) + (upv (cel xs L 3 >>> (8 &&& 31)) 4).toInt)).toNat 0 (mug 4 0 + 1) c 0 W K V (by omega) rfl (by omega) (by rw [show mug 4 0 = 4 from rfl]; omega)
    rw [show c.an = (upv (cel xs L 3 >>> (4 &&& 31)) 4).toInt by omega] at fin
    exact fin
  | m + 1, k, g + 1, c, vn, vr, an, ar, tot, ph, ln, fl, l7, W, K, V, hp, ha, h7, hk, htop, hg => by
    have b4 := upv_b (x := cel xs L 3 >>> (4 &&& 31)) (m := 4) (by decide)
    simp only [Int32.reduceToInt] at b4
    have e7 : (l7 + 1).toInt = ((k + 1 : Nat) : Int) := by rw [add32 (by simp only [Int32.reduceToInt]; omega) (by simp only [Int32.reduceToInt]; omega), h7]; rfl
    have em : (10 * l7).toInt = 10 * l7.toInt := mul32 (by simp only [Int32.reduceToInt]; omega) (by simp only [Int32.reduceToInt]; omega)
    have er : (1 + (10 * l7)).toInt = 1 + 10 * l7.toInt := by rw [add32 (by simp only [Int32.reduceToInt]; omega) (by simp only [Int32.reduceToInt]; omega), em]; rfl
    have Ka := K.an
    have a0 := W.an0
    have a1 := W.an1
    have rt := c_rt Ka a0 (by omega) K.ar
    have ea : an = l7 := by rw [eq32]; omega
    have ex : (an + 1).toInt = c.an + 1 := by rw [add32 (by simp only [Int32.reduceToInt]; omega) (by simp only [Int32.reduceToInt]; omega), Ka]; rfl
    unfold f_L_settings_b362
    rw [cel_e hL (by decide), obnd_some, upv_e (by decide), obnd_some, if_neg (by rw [le32]; omega), grd_v (by omega) (by omega), q_rungA (by omega) (by omega) (by omega) (by omega), o5_s]
    have ez : (0 : Int32) + ((an + 1 - 1) - l7) = 0 := by rw [ea]; exact z_a l7
    rw [ez]
    exact s362 hL m (k + 1) g (addA c (1 + (10 * l7)).toInt) (l7 + 1) (wf_addA W (by omega) (by omega)) (CC.mk (h_v := K.v) (h_vn := K.vn) (h_an := ex) (h_ph := K.ph) (h_tot := K.tot) (h_vr := K.vr) (h_ar := upd_e Ka K.ar) (h_ln := K.ln) (h_fl := K.fl)) V hp (by show c.an + 1 = _; omega) e7 (by omega) (by show topI (c.an + 1) (updI c.ar c.an.toNat (1 + (10 * l7)).toInt) < _; rw [topI_add a0]; omega) (by omega)
theorem s301 {xs : Nat → Int32} {L : Nat} (hL : L ≤ 260) {va8 : Nat → Int32} {l4 : Int32} : ∀ (m k g : Nat) (c : Cf) {vn : Int32} {vr : Nat → Int32} {an : Int32} {ar : Nat → Int32} {tot ph : Int32} {ln fl : Nat → Int32} (l6 l7 : Int32), WfC c → CC c va8 vn vr an ar tot ph ln fl → c.ph = 0 → c.an = 0 → c.vn = k → l7.toInt = k → (k : Int) + m = ((1 : Int) + (upv (cel xs L 3) 6).toInt) → l6.toInt = topI c.vn c.vr → l6.toInt ≤ 60 * (k : Int) → m < g → DoneS c.v va8 l4 (upv (cel xs L 3 >>> (4 &&& 31)) 4).toInt ((1 : Int) + (upv (cel xs L 3 >>> (8 &&& 31)) 4).toInt) (f_L_settings_b301 0 3 6 xs L g an ar tot ph ln fl va8 vn vr l4 0 l6 l7)
  | 0, k, g + 1, c, vn, vr, an, ar, tot, ph, ln, fl, l6, l7, W, K, hp, ha, hv, h7, hk, h6, h60, hg => by
    have b := upv_b (x := cel xs L 3) (m := 6) (by decide)
    have b4 := upv_b (x := cel xs L 3 >>> (4 &&& 31)) (m := 4) (by decide)
    simp only [Int32.reduceToInt] at b b4
    have e : ((1 : Int32) + upv (cel xs L 3) 6).toInt = ((1 : Int) + (upv (cel xs L 3) 6).toInt) := by rw [add32 (by simp only [Int32.reduceToInt]; omega) (by simp only [Int32.reduceToInt]; omega)]; rfl
    unfold f_L_settings_b301
    rw [cel_e hL (by decide), obnd_some, upv_e (by decide), obnd_some, if_pos (by rw [le32, e]; omega)]
    exact s362 hL ((upv (cel xs L 3 >>> (4 &&& 31)) 4).toInt).toNat 0 (mug 3 0 + 1) c 0 W K (by omega) hp ha rfl (by omega) (by unfold topI; rw [if_pos (by omega)]; omega) (by rw [show mug 3 0 = 3 from rfl]; omega)
  | m + 1, k, g + 1, c, vn, vr, an, ar, tot, ph, ln, fl, l6, l7, W, K, hp, ha, hv, h7, hk, h6, h60, hg => by
    have b := upv_b (x := cel xs L 3) (m := 6) (by decide)
    have b5 := upv_b (x := cel xs L (4 + l7)) (m := 60) (by decide)
    simp only [Int32.reduceToInt] at b b5
    have e : ((1 : Int32) + upv (cel xs L 3) 6).toInt = ((1 : Int) + (upv (cel xs L 3) 6).toInt) := by rw [add32 (by simp only [Int32.reduceToInt]; omega) (by simp only [Int32.reduceToInt]; omega)]; rfl
    have t0 := top_nn W
    have e7 : (l7 + 1).toInt = ((k + 1 : Nat) : Int) := by rw [add32 (by simp only [Int32.reduceToInt]; omega) (by simp only [Int32.reduceToInt]; omega), h7]; rfl
    have e4 : (4 + l7).toInt = 4 + l7.toInt := by rw [add32 (by simp only [Int32.reduceToInt]; omega) (by simp only [Int32.reduceToInt]; omega)]; rfl
    have e1 : ((1 : Int32) + upv (cel xs L (4 + l7)) 60).toInt = 1 + (upv (cel xs L (4 + l7)) 60).toInt := by rw [add32 (by simp only [Int32.reduceToInt]; omega) (by simp only [Int32.reduceToInt]; omega)]; rfl
    have er : (l6 + ((1 : Int32) + upv (cel xs L (4 + l7)) 60)).toInt = l6.toInt + (1 + (upv (cel xs L (4 + l7)) 60).toInt) := by rw [add32 (by omega) (by omega), e1]
    have Kv := K.vn
    have v0 := W.vn0
    have rt := c_rt Kv v0 W.vn1 K.vr
    have ev : vn = l7 := by rw [eq32]; omega
    have ex : (vn + 1).toInt = c.vn + 1 := by rw [add32 (by simp only [Int32.reduceToInt]; omega) (by simp only [Int32.reduceToInt]; omega), Kv]; rfl
    unfold f_L_settings_b301
    rw [cel_e hL (by decide), obnd_some, upv_e (by decide), obnd_some, if_neg (by rw [le32, e]; omega), grd_v (by omega) (by omega), cel_e hL (by omega), obnd_some, upv_e (by decide), obnd_some, q_rungV (by omega) (by omega) (by omega) (by omega), o5_s]
    have ez : (0 : Int32) + ((vn + 1 - 1) - l7) = 0 := by rw [ev]; exact z_a l7
    rw [ez]
    exact s301 hL m (k + 1) g (addV c (l6 + ((1 : Int32) + upv (cel xs L (4 + l7)) 60)).toInt) (l6 + ((1 : Int32) + upv (cel xs L (4 + l7)) 60)) (l7 + 1) (wf_addV W (by omega) (by omega)) (CC.mk (h_v := K.v) (h_vn := ex) (h_an := K.an) (h_ph := K.ph) (h_tot := K.tot) (h_vr := upd_e Kv K.vr) (h_ar := K.ar) (h_ln := K.ln) (h_fl := K.fl)) hp ha (by show c.vn + 1 = _; omega) e7 (by omega) (by show _ = topI (c.vn + 1) (updI c.vr c.vn.toNat (l6 + ((1 : Int32) + upv (cel xs L (4 + l7)) 60)).toInt); rw [topI_add v0]) (by omega) (by omega)
/-- the values that the script sets -/
def setW (xs : Nat → Int32) (L : Nat) (w13 : Int32) : Nat → Int32 := (upd (upd (upd (upd (upd (upd (upd (upd (upd (upd (upd (upd (upd FV 0 ((100 : Int32) + upv (cel xs L 0) 2000)) 1 ((1 : Int32) + upv (cel xs L 0 >>> (11 &&& 31)) 40)) 2 (upv (cel xs L 0 >>> (17 &&& 31)) 300)) 3 (upv (cel xs L 1) 6000)) 4 (upv (cel xs L 1 >>> (7 &&& 31)) 6000)) 12 (upv (cel xs L 1 >>> (14 &&& 31)) 3)) 9 ((10 : Int32) + upv (cel xs L 1 >>> (16 &&& 31)) 91)) 11 (upv (cel xs L 1 >>> (20 &&& 31)) 1000)) 10 (upv (cel xs L 2) 6000)) 13 w13) 14 (upv (cel xs L 2 >>> (8 &&& 31)) 9000)) 7 ((4000 : Int32) + upv (cel xs L 2 >>> (4 &&& 31)) 20000)) 8 ((1 : Int32) + upv (cel xs L 2 >>> (20 &&& 31)) 10))
theorem q_setL {va8 : Nat → Int32} (k : Int32) (n : Nat) (d : Int32) {p2 : Int32} (h0 : 0 ≤ k.toInt) (h1 : k.toInt < 15) (hn : k.toInt.toNat = n) (hd : va8 n = d) (g0 : (LV k.toNatClampNeg).toInt ≤ p2.toInt) (g1 : p2.toInt ≤ (GV k.toNatClampNeg).toInt) : f_L_set 0 va8 k p2 = some (d, upd va8 n p2) := by
  rw [q_set h0 h1 g0 g1, hn, hd, tn, hn]
theorem set_b {xs : Nat → Int32} {L : Nat} {w13 : Int32} (h0 : 0 ≤ w13.toInt) (h1 : w13.toInt < 8000) : (100 ≤ (setW xs L w13 0).toInt ∧ (setW xs L w13 0).toInt ≤ 2099) ∧ (1 ≤ (setW xs L w13 1).toInt ∧ (setW xs L w13 1).toInt ≤ 40) ∧ (0 ≤ (setW xs L w13 2).toInt ∧ (setW xs L w13 2).toInt ≤ 299) ∧ (0 ≤ (setW xs L w13 3).toInt ∧ (setW xs L w13 3).toInt ≤ 5999) ∧ (0 ≤ (setW xs L w13 4).toInt ∧ (setW xs L w13 4).toInt ≤ 5999) ∧ (4000 ≤ (setW xs L w13 5).toInt ∧ (setW xs L w13 5).toInt ≤ 4000) ∧ (10000 ≤ (setW xs L w13 6).toInt ∧ (setW xs L w13 6).toInt ≤ 10000) ∧ (4000 ≤ (setW xs L w13 7).toInt ∧ (setW xs L w13 7).toInt ≤ 23999) ∧ (1 ≤ (setW xs L w13 8).toInt ∧ (setW xs L w13 8).toInt ≤ 10) ∧ (10 ≤ (setW xs L w13 9).toInt ∧ (setW xs L w13 9).toInt ≤ 100) ∧ (0 ≤ (setW xs L w13 10).toInt ∧ (setW xs L w13 10).toInt ≤ 5999) ∧ (0 ≤ (setW xs L w13 11).toInt ∧ (setW xs L w13 11).toInt ≤ 999) ∧ (0 ≤ (setW xs L w13 12).toInt ∧ (setW xs L w13 12).toInt ≤ 2) ∧ (0 ≤ (setW xs L w13 13).toInt ∧ (setW xs L w13 13).toInt ≤ 7999) ∧ (0 ≤ (setW xs L w13 14).toInt ∧ (setW xs L w13 14).toInt ≤ 8999) := by
  have b0 := upv_b (x := cel xs L 0) (m := 2000) (by decide)
  have b1 := upv_b (x := cel xs L 0 >>> (11 &&& 31)) (m := 40) (by decide)
  have b2 := upv_b (x := cel xs L 0 >>> (17 &&& 31)) (m := 300) (by decide)
  have b3 := upv_b (x := cel xs L 1) (m := 6000) (by decide)
  have b4 := upv_b (x := cel xs L 1 >>> (7 &&& 31)) (m := 6000) (by decide)
  have b12 := upv_b (x := cel xs L 1 >>> (14 &&& 31)) (m := 3) (by decide)
  have b9 := upv_b (x := cel xs L 1 >>> (16 &&& 31)) (m := 91) (by decide)
  have b11 := upv_b (x := cel xs L 1 >>> (20 &&& 31)) (m := 1000) (by decide)
  have b10 := upv_b (x := cel xs L 2) (m := 6000) (by decide)
  have b14 := upv_b (x := cel xs L 2 >>> (8 &&& 31)) (m := 9000) (by decide)
  have b7 := upv_b (x := cel xs L 2 >>> (4 &&& 31)) (m := 20000) (by decide)
  have b8 := upv_b (x := cel xs L 2 >>> (20 &&& 31)) (m := 10) (by decide)
  simp only [Int32.reduceToInt] at b0 b1 b2 b3 b4 b12 b9 b11 b10 b14 b7 b8
  have a0 : ((100 : Int32) + upv (cel xs L 0) 2000).toInt = 100 + (upv (cel xs L 0) 2000).toInt := by rw [add32 (by simp only [Int32.reduceToInt]; omega) (by simp only [Int32.reduceToInt]; omega)]; rfl
  have a1 : ((1 : Int32) + upv (cel xs L 0 >>> (11 &&& 31)) 40).toInt = 1 + (upv (cel xs L 0 >>> (11 &&& 31)) 40).toInt := by rw [add32 (by simp only [Int32.reduceToInt]; omega) (by simp only [Int32.reduceToInt]; omega)]; rfl
  have a9 : ((10 : Int32) + upv (cel xs L 1 >>> (16 &&& 31)) 91).toInt = 10 + (upv (cel xs L 1 >>> (16 &&& 31)) 91).toInt := by rw [add32 (by simp only [Int32.reduceToInt]; omega) (by simp only [Int32.reduceToInt]; omega)]; rfl
  have a7 : ((4000 : Int32) + upv (cel xs L 2 >>> (4 &&& 31)) 20000).toInt = 4000 + (upv (cel xs L 2 >>> (4 &&& 31)) 20000).toInt := by rw [add32 (by simp only [Int32.reduceToInt]; omega) (by simp only [Int32.reduceToInt]; omega)]; rfl
  have a8 : ((1 : Int32) + upv (cel xs L 2 >>> (20 &&& 31)) 10).toInt = 1 + (upv (cel xs L 2 >>> (20 &&& 31)) 10).toInt := by rw [add32 (by simp only [Int32.reduceToInt]; omega) (by simp only [Int32.reduceToInt]; omega)]; rfl
  have e0 : setW xs L w13 0 = ((100 : Int32) + upv (cel xs L 0) 2000) := rfl
  have e1 : setW xs L w13 1 = ((1 : Int32) + upv (cel xs L 0 >>> (11 &&& 31)) 40) := rfl
  have e2 : setW xs L w13 2 = (upv (cel xs L 0 >>> (17 &&& 31)) 300) := rfl
  have e3 : setW xs L w13 3 = (upv (cel xs L 1) 6000) := rfl
  have e4 : setW xs L w13 4 = (upv (cel xs L 1 >>> (7 &&& 31)) 6000) := rfl
  have e5 : setW xs L w13 5 = FV 5 := rfl
  have e6 : setW xs L w13 6 = FV 6 := rfl
  have e7 : setW xs L w13 7 = ((4000 : Int32) + upv (cel xs L 2 >>> (4 &&& 31)) 20000) := rfl
  have e8 : setW xs L w13 8 = ((1 : Int32) + upv (cel xs L 2 >>> (20 &&& 31)) 10) := rfl
  have e9 : setW xs L w13 9 = ((10 : Int32) + upv (cel xs L 1 >>> (16 &&& 31)) 91) := rfl
  have e10 : setW xs L w13 10 = (upv (cel xs L 2) 6000) := rfl
  have e11 : setW xs L w13 11 = (upv (cel xs L 1 >>> (20 &&& 31)) 1000) := rfl
  have e12 : setW xs L w13 12 = (upv (cel xs L 1 >>> (14 &&& 31)) 3) := rfl
  have e13 : setW xs L w13 13 = w13 := rfl
  have e14 : setW xs L w13 14 = (upv (cel xs L 2 >>> (8 &&& 31)) 9000) := rfl
  rw [e0, e1, e2, e3, e4, e5, e6, e7, e8, e9, e10, e11, e12, e13, e14, a0, a1, a9, a7, a8]
  refine ⟨⟨by omega, by omega⟩, ⟨by omega, by omega⟩, ⟨by omega, by omega⟩, ⟨by omega, by omega⟩, ⟨by omega, by omega⟩, ⟨by decide, by decide⟩, ⟨by decide, by decide⟩, ⟨by omega, by omega⟩, ⟨by omega, by omega⟩, ⟨by omega, by omega⟩, ⟨by omega, by omega⟩, ⟨by omega, by omega⟩, ⟨by omega, by omega⟩, ⟨by omega, by omega⟩, ⟨by omega, by omega⟩⟩
def setC (xs : Nat → Int32) (L : Nat) (w13 : Int32) : Cf := Cf.mk (fun k => (setW xs L w13 k).toInt) 0 0 0 0 (fun _ => 0) (fun _ => 0) (fun _ => 0) (fun _ => 0)
theorem set_wf {xs : Nat → Int32} {L : Nat} {w13 : Int32} (h0 : 0 ≤ w13.toInt) (h1 : w13.toInt < 8000) : WfC (setC xs L w13) := by
  obtain ⟨q0, q1, q2, q3, q4, q5, q6, q7, q8, q9, q10, q11, q12, q13, q14⟩ := set_b (xs := xs) (L := L) h0 h1
  exact WfC.mk (h_d0 := by show _ ≤ (setW xs L w13 0).toInt; omega) (h_d1 := by show (setW xs L w13 0).toInt ≤ _; omega) (h_m0 := by show _ ≤ (setW xs L w13 1).toInt; omega) (h_m1 := by show (setW xs L w13 1).toInt ≤ _; omega) (h_a2 := by show _ ≤ (setW xs L w13 2).toInt; omega) (h_b2 := by show (setW xs L w13 2).toInt ≤ _; omega) (h_a3 := by show _ ≤ (setW xs L w13 3).toInt; omega) (h_b3 := by show (setW xs L w13 3).toInt ≤ _; omega) (h_a4 := by show _ ≤ (setW xs L w13 4).toInt; omega) (h_b4 := by show (setW xs L w13 4).toInt ≤ _; omega) (h_a5 := by show _ ≤ (setW xs L w13 5).toInt; omega) (h_b5 := by show (setW xs L w13 5).toInt ≤ _; omega) (h_a6 := by show _ ≤ (setW xs L w13 6).toInt; omega) (h_b6 := by show (setW xs L w13 6).toInt ≤ _; omega) (h_a7 := by show _ ≤ (setW xs L w13 7).toInt; omega) (h_b7 := by show (setW xs L w13 7).toInt ≤ _; omega) (h_a8 := by show _ ≤ (setW xs L w13 8).toInt; omega) (h_b8 := by show (setW xs L w13 8).toInt ≤ _; omega) (h_a9 := by show _ ≤ (setW xs L w13 9).toInt; omega) (h_b9 := by show (setW xs L w13 9).toInt ≤ _; omega) (h_a10 := by show _ ≤ (setW xs L w13 10).toInt; omega) (h_b10 := by show (setW xs L w13 10).toInt ≤ _; omega) (h_a11 := by show _ ≤ (setW xs L w13 11).toInt; omega) (h_b11 := by show (setW xs L w13 11).toInt ≤ _; omega) (h_a12 := by show _ ≤ (setW xs L w13 12).toInt; omega) (h_b12 := by show (setW xs L w13 12).toInt ≤ _; omega) (h_a13 := by show _ ≤ (setW xs L w13 13).toInt; omega) (h_b13 := by show (setW xs L w13 13).toInt ≤ _; omega) (h_a14 := by show _ ≤ (setW xs L w13 14).toInt; omega) (h_b14 := by show (setW xs L w13 14).toInt ≤ _; omega) (h_vn0 := (show (0 : Int) ≤ 0 by decide)) (h_vn1 := (show (0 : Int) ≤ 6 by decide)) (h_an0 := (show (0 : Int) ≤ 0 by decide)) (h_an1 := (show (0 : Int) ≤ 3 by decide)) (h_ph0 := (show (0 : Int) ≤ 0 by decide)) (h_ph1 := (show (0 : Int) ≤ 20 by decide)) (h_vr0 := none_k) (h_ar0 := none_k) (h_ln0 := none_k) (h_fl0 := none_k)
theorem set_cc {xs : Nat → Int32} {L : Nat} {w13 : Int32} {vr ar ln fl : Nat → Int32} : CC (setC xs L w13) (setW xs L w13) 0 vr 0 ar 0 0 ln fl :=
  CC.mk (h_v := fun k hk => rfl) (h_vn := rfl) (h_an := rfl) (h_ph := rfl) (h_tot := rfl) (h_vr := none_k) (h_ar := none_k) (h_ln := none_k) (h_fl := none_k)
theorem s224 {xs : Nat → Int32} {L : Nat} (hL : L ≤ 260) {vr ar ln fl : Nat → Int32} {w13 : Int32} (h0 : 0 ≤ w13.toInt) (h1 : w13.toInt < 8000) : DoneS (setC xs L w13).v (setW xs L w13) ((100 : Int32) + upv (cel xs L 0) 2000) (upv (cel xs L 3 >>> (4 &&& 31)) 4).toInt ((1 : Int) + (upv (cel xs L 3 >>> (8 &&& 31)) 4).toInt) (f_L_settings_b224 0 3 6 xs L 0 ar 0 0 ln fl (upd (upd (upd (upd (upd (upd (upd (upd (upd FV 0 ((100 : Int32) + upv (cel xs L 0) 2000)) 1 ((1 : Int32) + upv (cel xs L 0 >>> (11 &&& 31)) 40)) 2 (upv (cel xs L 0 >>> (17 &&& 31)) 300)) 3 (upv (cel xs L 1) 6000)) 4 (upv (cel xs L 1 >>> (7 &&& 31)) 6000)) 12 (upv (cel xs L 1 >>> (14 &&& 31)) 3)) 9 ((10 : Int32) + upv (cel xs L 1 >>> (16 &&& 31)) 91)) 11 (upv (cel xs L 1 >>> (20 &&& 31)) 1000)) 10 (upv (cel xs L 2) 6000)) 0 vr (cel xs L 2) ((100 : Int32) + upv (cel xs L 0) 2000) 0 0 13 w13) := by
  have sb := set_b (xs := xs) (L := L) h0 h1
  obtain ⟨q0, q1, q2, q3, q4, q5, q6, q7, q8, q9, q10, q11, q12, q13, q14⟩ := sb
  have r9 := q_setL (va8 := (upd (upd (upd (upd (upd (upd (upd (upd (upd FV 0 ((100 : Int32) + upv (cel xs L 0) 2000)) 1 ((1 : Int32) + upv (cel xs L 0 >>> (11 &&& 31)) 40)) 2 (upv (cel xs L 0 >>> (17 &&& 31)) 300)) 3 (upv (cel xs L 1) 6000)) 4 (upv (cel xs L 1 >>> (7 &&& 31)) 6000)) 12 (upv (cel xs L 1 >>> (14 &&& 31)) 3)) 9 ((10 : Int32) + upv (cel xs L 1 >>> (16 &&& 31)) 91)) 11 (upv (cel xs L 1 >>> (20 &&& 31)) 1000)) 10 (upv (cel xs L 2) 6000))) 13 13 0 (p2 := w13) (by decide) (by decide) rfl rfl (by rw [show (LV (13 : Int32).toNatClampNeg).toInt = 0 from by decide +kernel]; have q : 0 ≤ (setW xs L w13 13).toInt := (by omega); exact q) (by rw [show (GV (13 : Int32).toNatClampNeg).toInt = 60000 from by decide +kernel]; have q : (setW xs L w13 13).toInt ≤ 60000 := (by omega); exact q)
  have r10 := q_setL (va8 := (upd (upd (upd (upd (upd (upd (upd (upd (upd (upd FV 0 ((100 : Int32) + upv (cel xs L 0) 2000)) 1 ((1 : Int32) + upv (cel xs L 0 >>> (11 &&& 31)) 40)) 2 (upv (cel xs L 0 >>> (17 &&& 31)) 300)) 3 (upv (cel xs L 1) 6000)) 4 (upv (cel xs L 1 >>> (7 &&& 31)) 6000)) 12 (upv (cel xs L 1 >>> (14 &&& 31)) 3)) 9 ((10 : Int32) + upv (cel xs L 1 >>> (16 &&& 31)) 91)) 11 (upv (cel xs L 1 >>> (20 &&& 31)) 1000)) 10 (upv (cel xs L 2) 6000)) 13 w13)) 14 14 60000 (p2 := (upv (cel xs L 2 >>> (8 &&& 31)) 9000)) (by decide) (by decide) rfl rfl (by rw [show (LV (14 : Int32).toNatClampNeg).toInt = 0 from by decide +kernel]; have q : 0 ≤ (setW xs L w13 14).toInt := (by omega); exact q) (by rw [show (GV (14 : Int32).toNatClampNeg).toInt = 60000 from by decide +kernel]; have q : (setW xs L w13 14).toInt ≤ 60000 := (by omega); exact q)
  have r11 := q_setL (va8 := (upd (upd (upd (upd (upd (upd (upd (upd (upd (upd (upd FV 0 ((100 : Int32) + upv (cel xs L 0) 2000)) 1 ((1 : Int32) + upv (cel xs L 0 >>> (11 &&& 31)) 40)) 2 (upv (cel xs L 0 >>> (17 &&& 31)) 300)) 3 (upv (cel xs L 1) 6000)) 4 (upv (cel xs L 1 >>> (7 &&& 31)) 6000)) 12 (upv (cel xs L 1 >>> (14 &&& 31)) 3)) 9 ((10 : Int32) + upv (cel xs L 1 >>> (16 &&& 31)) 91)) 11 (upv (cel xs L 1 >>> (20 &&& 31)) 1000)) 10 (upv (cel xs L 2) 6000)) 13 w13) 14 (upv (cel xs L 2 >>> (8 &&& 31)) 9000))) 7 7 20000 (p2 := ((4000 : Int32) + upv (cel xs L 2 >>> (4 &&& 31)) 20000)) (by decide) (by decide) rfl rfl (by rw [show (LV (7 : Int32).toNatClampNeg).toInt = 1000 from by decide +kernel]; have q : 1000 ≤ (setW xs L w13 7).toInt := (by omega); exact q) (by rw [show (GV (7 : Int32).toNatClampNeg).toInt = 60000 from by decide +kernel]; have q : (setW xs L w13 7).toInt ≤ 60000 := (by omega); exact q)
  have r12 := q_setL (va8 := (upd (upd (upd (upd (upd (upd (upd (upd (upd (upd (upd (upd FV 0 ((100 : Int32) + upv (cel xs L 0) 2000)) 1 ((1 : Int32) + upv (cel xs L 0 >>> (11 &&& 31)) 40)) 2 (upv (cel xs L 0 >>> (17 &&& 31)) 300)) 3 (upv (cel xs L 1) 6000)) 4 (upv (cel xs L 1 >>> (7 &&& 31)) 6000)) 12 (upv (cel xs L 1 >>> (14 &&& 31)) 3)) 9 ((10 : Int32) + upv (cel xs L 1 >>> (16 &&& 31)) 91)) 11 (upv (cel xs L 1 >>> (20 &&& 31)) 1000)) 10 (upv (cel xs L 2) 6000)) 13 w13) 14 (upv (cel xs L 2 >>> (8 &&& 31)) 9000)) 7 ((4000 : Int32) + upv (cel xs L 2 >>> (4 &&& 31)) 20000))) 8 8 3 (p2 := ((1 : Int32) + upv (cel xs L 2 >>> (20 &&& 31)) 10)) (by decide) (by decide) rfl rfl (by rw [show (LV (8 : Int32).toNatClampNeg).toInt = 1 from by decide +kernel]; have q : 1 ≤ (setW xs L w13 8).toInt := (by omega); exact q) (by rw [show (GV (8 : Int32).toNatClampNeg).toInt = 10 from by decide +kernel]; have q : (setW xs L w13 8).toInt ≤ 10 := (by omega); exact q)
  have b := upv_b (x := cel xs L 3) (m := 6) (by decide)
  simp only [Int32.reduceToInt] at b
  have fin := s301 (xs := xs) (l4 := ((100 : Int32) + upv (cel xs L 0) 2000)) hL (((1 : Int) + (upv (cel xs L 3) 6).toInt)).toNat 0 (mug 6 0 + 1) (setC xs L w13) 0 0 (set_wf h0 h1) (set_cc (vr := vr) (ar := ar) (ln := ln) (fl := fl)) rfl rfl rfl rfl (by omega) rfl (by decide) (by rw [show mug 6 0 = 6 from rfl]; omega)
  unfold f_L_settings_b224
  rw [r9, o2_s, upv_e (by decide), obnd_some, r10, o2_s, upv_e (by decide), obnd_some, r11, o2_s, upv_e (by decide), obnd_some, r12, o2_s, bnd_p]
  exact fin
theorem q_settings {xs : Nat → Int32} {L : Nat} (hL : L ≤ 260) {vr ar ln fl : Nat → Int32} : ∃ w13 : Int32, 0 ≤ w13.toInt ∧ w13.toInt < 8000 ∧ DoneS (setC xs L w13).v (setW xs L w13) ((100 : Int32) + upv (cel xs L 0) 2000) (upv (cel xs L 3 >>> (4 &&& 31)) 4).toInt ((1 : Int) + (upv (cel xs L 3 >>> (8 &&& 31)) 4).toInt) (f_L_settings 0 3 0 ar 0 0 ln fl FV 6 0 vr xs L) := by
  have key : ∀ w13 : Int32, 0 ≤ w13.toInt → w13.toInt < 8000 → f_L_settings 0 3 0 ar 0 0 ln fl FV 6 0 vr xs L = (f_L_settings_b224 0 3 6 xs L 0 ar 0 0 ln fl (upd (upd (upd (upd (upd (upd (upd (upd (upd FV 0 ((100 : Int32) + upv (cel xs L 0) 2000)) 1 ((1 : Int32) + upv (cel xs L 0 >>> (11 &&& 31)) 40)) 2 (upv (cel xs L 0 >>> (17 &&& 31)) 300)) 3 (upv (cel xs L 1) 6000)) 4 (upv (cel xs L 1 >>> (7 &&& 31)) 6000)) 12 (upv (cel xs L 1 >>> (14 &&& 31)) 3)) 9 ((10 : Int32) + upv (cel xs L 1 >>> (16 &&& 31)) 91)) 11 (upv (cel xs L 1 >>> (20 &&& 31)) 1000)) 10 (upv (cel xs L 2) 6000)) 0 vr (cel xs L 2) ((100 : Int32) + upv (cel xs L 0) 2000) 0 0 13 w13) → ∃ w13 : Int32, 0 ≤ w13.toInt ∧ w13.toInt < 8000 ∧ DoneS (setC xs L w13).v (setW xs L w13) ((100 : Int32) + upv (cel xs L 0) 2000) (upv (cel xs L 3 >>> (4 &&& 31)) 4).toInt ((1 : Int) + (upv (cel xs L 3 >>> (8 &&& 31)) 4).toInt) (f_L_settings 0 3 0 ar 0 0 ln fl FV 6 0 vr xs L) := fun w13 h0 h1 e => ⟨w13, h0, h1, by rw [e]; exact s224 hL h0 h1⟩
  have w13 : Int32 := 0
  have sb := set_b (xs := xs) (L := L) (w13 := 0) (by decide) (by decide)
  obtain ⟨q0, q1, q2, q3, q4, q5, q6, q7, q8, q9, q10, q11, q12, q13, q14⟩ := sb
  have r0 := q_setL (va8 := FV) 0 0 2000 (p2 := ((100 : Int32) + upv (cel xs L 0) 2000)) (by decide) (by decide) rfl rfl (by rw [show (LV (0 : Int32).toNatClampNeg).toInt = 100 from by decide +kernel]; have q : 100 ≤ (setW xs L 0 0).toInt := (by omega); exact q) (by rw [show (GV (0 : Int32).toNatClampNeg).toInt = 10000 from by decide +kernel]; have q : (setW xs L 0 0).toInt ≤ 10000 := (by omega); exact q)
  have r1 := q_setL (va8 := (upd FV 0 ((100 : Int32) + upv (cel xs L 0) 2000))) 1 1 30 (p2 := ((1 : Int32) + upv (cel xs L 0 >>> (11 &&& 31)) 40)) (by decide) (by decide) rfl rfl (by rw [show (LV (1 : Int32).toNatClampNeg).toInt = 1 from by decide +kernel]; have q : 1 ≤ (setW xs L 0 1).toInt := (by omega); exact q) (by rw [show (GV (1 : Int32).toNatClampNeg).toInt = 200 from by decide +kernel]; have q : (setW xs L 0 1).toInt ≤ 200 := (by omega); exact q)
  have r2 := q_setL (va8 := (upd (upd FV 0 ((100 : Int32) + upv (cel xs L 0) 2000)) 1 ((1 : Int32) + upv (cel xs L 0 >>> (11 &&& 31)) 40))) 2 2 50 (p2 := (upv (cel xs L 0 >>> (17 &&& 31)) 300)) (by decide) (by decide) rfl rfl (by rw [show (LV (2 : Int32).toNatClampNeg).toInt = 0 from by decide +kernel]; have q : 0 ≤ (setW xs L 0 2).toInt := (by omega); exact q) (by rw [show (GV (2 : Int32).toNatClampNeg).toInt = 2000 from by decide +kernel]; have q : (setW xs L 0 2).toInt ≤ 2000 := (by omega); exact q)
  have r3 := q_setL (va8 := (upd (upd (upd FV 0 ((100 : Int32) + upv (cel xs L 0) 2000)) 1 ((1 : Int32) + upv (cel xs L 0 >>> (11 &&& 31)) 40)) 2 (upv (cel xs L 0 >>> (17 &&& 31)) 300))) 3 3 2000 (p2 := (upv (cel xs L 1) 6000)) (by decide) (by decide) rfl rfl (by rw [show (LV (3 : Int32).toNatClampNeg).toInt = 0 from by decide +kernel]; have q : 0 ≤ (setW xs L 0 3).toInt := (by omega); exact q) (by rw [show (GV (3 : Int32).toNatClampNeg).toInt = 60000 from by decide +kernel]; have q : (setW xs L 0 3).toInt ≤ 60000 := (by omega); exact q)
  have r4 := q_setL (va8 := (upd (upd (upd (upd FV 0 ((100 : Int32) + upv (cel xs L 0) 2000)) 1 ((1 : Int32) + upv (cel xs L 0 >>> (11 &&& 31)) 40)) 2 (upv (cel xs L 0 >>> (17 &&& 31)) 300)) 3 (upv (cel xs L 1) 6000))) 4 4 2000 (p2 := (upv (cel xs L 1 >>> (7 &&& 31)) 6000)) (by decide) (by decide) rfl rfl (by rw [show (LV (4 : Int32).toNatClampNeg).toInt = 0 from by decide +kernel]; have q : 0 ≤ (setW xs L 0 4).toInt := (by omega); exact q) (by rw [show (GV (4 : Int32).toNatClampNeg).toInt = 60000 from by decide +kernel]; have q : (setW xs L 0 4).toInt ≤ 60000 := (by omega); exact q)
  have r5 := q_setL (va8 := (upd (upd (upd (upd (upd FV 0 ((100 : Int32) + upv (cel xs L 0) 2000)) 1 ((1 : Int32) + upv (cel xs L 0 >>> (11 &&& 31)) 40)) 2 (upv (cel xs L 0 >>> (17 &&& 31)) 300)) 3 (upv (cel xs L 1) 6000)) 4 (upv (cel xs L 1 >>> (7 &&& 31)) 6000))) 12 12 2 (p2 := (upv (cel xs L 1 >>> (14 &&& 31)) 3)) (by decide) (by decide) rfl rfl (by rw [show (LV (12 : Int32).toNatClampNeg).toInt = 0 from by decide +kernel]; have q : 0 ≤ (setW xs L 0 12).toInt := (by omega); exact q) (by rw [show (GV (12 : Int32).toNatClampNeg).toInt = 2 from by decide +kernel]; have q : (setW xs L 0 12).toInt ≤ 2 := (by omega); exact q)
  have r6 := q_setL (va8 := (upd (upd (upd (upd (upd (upd FV 0 ((100 : Int32) + upv (cel xs L 0) 2000)) 1 ((1 : Int32) + upv (cel xs L 0 >>> (11 &&& 31)) 40)) 2 (upv (cel xs L 0 >>> (17 &&& 31)) 300)) 3 (upv (cel xs L 1) 6000)) 4 (upv (cel xs L 1 >>> (7 &&& 31)) 6000)) 12 (upv (cel xs L 1 >>> (14 &&& 31)) 3))) 9 9 80 (p2 := ((10 : Int32) + upv (cel xs L 1 >>> (16 &&& 31)) 91)) (by decide) (by decide) rfl rfl (by rw [show (LV (9 : Int32).toNatClampNeg).toInt = 10 from by decide +kernel]; have q : 10 ≤ (setW xs L 0 9).toInt := (by omega); exact q) (by rw [show (GV (9 : Int32).toNatClampNeg).toInt = 100 from by decide +kernel]; have q : (setW xs L 0 9).toInt ≤ 100 := (by omega); exact q)
  have r7 := q_setL (va8 := (upd (upd (upd (upd (upd (upd (upd FV 0 ((100 : Int32) + upv (cel xs L 0) 2000)) 1 ((1 : Int32) + upv (cel xs L 0 >>> (11 &&& 31)) 40)) 2 (upv (cel xs L 0 >>> (17 &&& 31)) 300)) 3 (upv (cel xs L 1) 6000)) 4 (upv (cel xs L 1 >>> (7 &&& 31)) 6000)) 12 (upv (cel xs L 1 >>> (14 &&& 31)) 3)) 9 ((10 : Int32) + upv (cel xs L 1 >>> (16 &&& 31)) 91))) 11 11 500 (p2 := (upv (cel xs L 1 >>> (20 &&& 31)) 1000)) (by decide) (by decide) rfl rfl (by rw [show (LV (11 : Int32).toNatClampNeg).toInt = 0 from by decide +kernel]; have q : 0 ≤ (setW xs L 0 11).toInt := (by omega); exact q) (by rw [show (GV (11 : Int32).toNatClampNeg).toInt = 5000 from by decide +kernel]; have q : (setW xs L 0 11).toInt ≤ 5000 := (by omega); exact q)
  have r8 := q_setL (va8 := (upd (upd (upd (upd (upd (upd (upd (upd FV 0 ((100 : Int32) + upv (cel xs L 0) 2000)) 1 ((1 : Int32) + upv (cel xs L 0 >>> (11 &&& 31)) 40)) 2 (upv (cel xs L 0 >>> (17 &&& 31)) 300)) 3 (upv (cel xs L 1) 6000)) 4 (upv (cel xs L 1 >>> (7 &&& 31)) 6000)) 12 (upv (cel xs L 1 >>> (14 &&& 31)) 3)) 9 ((10 : Int32) + upv (cel xs L 1 >>> (16 &&& 31)) 91)) 11 (upv (cel xs L 1 >>> (20 &&& 31)) 1000))) 10 10 0 (p2 := (upv (cel xs L 2) 6000)) (by decide) (by decide) rfl rfl (by rw [show (LV (10 : Int32).toNatClampNeg).toInt = 0 from by decide +kernel]; have q : 0 ≤ (setW xs L 0 10).toInt := (by omega); exact q) (by rw [show (GV (10 : Int32).toNatClampNeg).toInt = 20000 from by decide +kernel]; have q : (setW xs L 0 10).toInt ≤ 20000 := (by omega); exact q)
  have st : f_L_settings 0 3 0 ar 0 0 ln fl FV 6 0 vr xs L = (if (((cel xs L 2) >>> (13 &&& 31)) &&& 3) = 0 then (obnd (f_L_up ((cel xs L 2) >>> (15 &&& 31)) 8000) fun (y : Int32) => f_L_settings_b224 0 3 6 xs L 0 ar 0 0 ln fl (upd (upd (upd (upd (upd (upd (upd (upd (upd FV 0 ((100 : Int32) + upv (cel xs L 0) 2000)) 1 ((1 : Int32) + upv (cel xs L 0 >>> (11 &&& 31)) 40)) 2 (upv (cel xs L 0 >>> (17 &&& 31)) 300)) 3 (upv (cel xs L 1) 6000)) 4 (upv (cel xs L 1 >>> (7 &&& 31)) 6000)) 12 (upv (cel xs L 1 >>> (14 &&& 31)) 3)) 9 ((10 : Int32) + upv (cel xs L 1 >>> (16 &&& 31)) 91)) 11 (upv (cel xs L 1 >>> (20 &&& 31)) 1000)) 10 (upv (cel xs L 2) 6000)) 0 vr (cel xs L 2) ((100 : Int32) + upv (cel xs L 0) 2000) 0 0 13 y) else f_L_settings_b224 0 3 6 xs L 0 ar 0 0 ln fl (upd (upd (upd (upd (upd (upd (upd (upd (upd FV 0 ((100 : Int32) + upv (cel xs L 0) 2000)) 1 ((1 : Int32) + upv (cel xs L 0 >>> (11 &&& 31)) 40)) 2 (upv (cel xs L 0 >>> (17 &&& 31)) 300)) 3 (upv (cel xs L 1) 6000)) 4 (upv (cel xs L 1 >>> (7 &&& 31)) 6000)) 12 (upv (cel xs L 1 >>> (14 &&& 31)) 3)) 9 ((10 : Int32) + upv (cel xs L 1 >>> (16 &&& 31)) 91)) 11 (upv (cel xs L 1 >>> (20 &&& 31)) 1000)) 10 (upv (cel xs L 2) 6000)) 0 vr (cel xs L 2) ((100 : Int32) + upv (cel xs L 0) 2000) 0 0 13 0) := by
    unfold f_L_settings
    rw [cel_e hL (by decide), obnd_some, cel_e hL (by decide), obnd_some, upv_e (by decide), obnd_some, r0, o2_s, upv_e (by decide), obnd_some, r1, o2_s, upv_e (by decide), obnd_some, r2, o2_s, upv_e (by decide), obnd_some, r3, o2_s, upv_e (by decide), obnd_some, r4, o2_s, bnd_p, upv_e (by decide), obnd_some, r5, o2_s, upv_e (by decide), obnd_some, r6, o2_s, upv_e (by decide), obnd_some, r7, o2_s, bnd_p, cel_e hL (by decide), obnd_some, upv_e (by decide), obnd_some, r8, o2_s]
    rfl
  by_cases q : (((cel xs L 2) >>> (13 &&& 31)) &&& 3) = 0
  · have b := upv_b (x := (cel xs L 2) >>> (15 &&& 31)) (m := 8000) (by decide)
    simp only [Int32.reduceToInt] at b
    rw [if_pos q, upv_e (by decide), obnd_some] at st
    exact key _ b.1 b.2 st
  · rw [if_neg q] at st
    exact key 0 (by decide) (by decide) st
