/-! what a call that sets answers, and the settings behind it -/
def loP (k : Nat) : Int := if k = 0 then 100 else if k = 1 then 1 else if k = 8 then 1 else 0
def hiP (k : Nat) : Int := if k = 0 then 10000 else if k = 1 then 200 else if k = 2 then 2000 else if k = 8 then 10 else if k = 9 then 100 else if k = 10 then 20000 else if k = 11 then 5000 else if k = 12 then 2 else 60000
theorem upd_r {f : Nat → Int} {n k : Nat} {x : Int} (hx : loP n ≤ x ∧ x ≤ hiP n) (hk : loP k ≤ f k ∧ f k ≤ hiP k) : loP k ≤ updI f n x k ∧ updI f n x k ≤ hiP k := by
  unfold updI
  split
  · rename_i h; rw [h]; exact hx
  · exact hk
def setV (c : Cf) (n : Nat) (x : Int) : Cf := Cf.mk (updI c.v n x) c.vn c.an c.ph c.tot c.vr c.ar c.ln c.fl
theorem wf_set {c : Cf} (W : WfC c) {n : Nat} {x : Int} (hx : loP n ≤ x ∧ x ≤ hiP n) : WfC (setV c n x) :=
  WfC.mk (h_d0 := (upd_r hx (k := 0) ⟨W.d0, W.d1⟩).1) (h_d1 := (upd_r hx (k := 0) ⟨W.d0, W.d1⟩).2) (h_m0 := (upd_r hx (k := 1) ⟨W.m0, W.m1⟩).1) (h_m1 := (upd_r hx (k := 1) ⟨W.m0, W.m1⟩).2) (h_a2 := (upd_r hx (k := 2) ⟨W.a2, W.b2⟩).1) (h_b2 := (upd_r hx (k := 2) ⟨W.a2, W.b2⟩).2) (h_a3 := (upd_r hx (k := 3) ⟨W.a3, W.b3⟩).1) (h_b3 := (upd_r hx (k := 3) ⟨W.a3, W.b3⟩).2) (h_a4 := (upd_r hx (k := 4) ⟨W.a4, W.b4⟩).1) (h_b4 := (upd_r hx (k := 4) ⟨W.a4, W.b4⟩).2) (h_a5 := (upd_r hx (k := 5) ⟨W.a5, W.b5⟩).1) (h_b5 := (upd_r hx (k := 5) ⟨W.a5, W.b5⟩).2) (h_a6 := (upd_r hx (k := 6) ⟨W.a6, W.b6⟩).1) (h_b6 := (upd_r hx (k := 6) ⟨W.a6, W.b6⟩).2) (h_a7 := (upd_r hx (k := 7) ⟨W.a7, W.b7⟩).1) (h_b7 := (upd_r hx (k := 7) ⟨W.a7, W.b7⟩).2) (h_a8 := (upd_r hx (k := 8) ⟨W.a8, W.b8⟩).1) (h_b8 := (upd_r hx (k := 8) ⟨W.a8, W.b8⟩).2) (h_a9 := (upd_r hx (k := 9) ⟨W.a9, W.b9⟩).1) (h_b9 := (upd_r hx (k := 9) ⟨W.a9, W.b9⟩).2) (h_a10 := (upd_r hx (k := 10) ⟨W.a10, W.b10⟩).1) (h_b10 := (upd_r hx (k := 10) ⟨W.a10, W.b10⟩).2) (h_a11 := (upd_r hx (k := 11) ⟨W.a11, W.b11⟩).1) (h_b11 := (upd_r hx (k := 11) ⟨W.a11, W.b11⟩).2) (h_a12 := (upd_r hx (k := 12) ⟨W.a12, W.b12⟩).1) (h_b12 := (upd_r hx (k := 12) ⟨W.a12, W.b12⟩).2) (h_a13 := (upd_r hx (k := 13) ⟨W.a13, W.b13⟩).1) (h_b13 := (upd_r hx (k := 13) ⟨W.a13, W.b13⟩).2) (h_a14 := (upd_r hx (k := 14) ⟨W.a14, W.b14⟩).1) (h_b14 := (upd_r hx (k := 14) ⟨W.a14, W.b14⟩).2) (h_vn0 := W.vn0) (h_vn1 := W.vn1) (h_an0 := W.an0) (h_an1 := W.an1) (h_ph0 := W.ph0) (h_ph1 := W.ph1) (h_vr0 := W.vr0) (h_ar0 := W.ar0) (h_ln0 := W.ln0) (h_fl0 := W.fl0)
theorem pb {p1 : Int32} (h0 : 0 ≤ p1.toInt) (h1 : p1.toInt < 15) : (loP p1.toInt.toNat ≤ (f_X10_leastOf p1).toInt ∧ (f_X10_mostOf p1).toInt ≤ hiP p1.toInt.toNat) ∧ LV p1.toNatClampNeg = f_X10_leastOf p1 ∧ GV p1.toNatClampNeg = f_X10_mostOf p1 := by
  have e : p1.toInt = 0 ∨ p1.toInt = 1 ∨ p1.toInt = 2 ∨ p1.toInt = 3 ∨ p1.toInt = 4 ∨ p1.toInt = 5 ∨ p1.toInt = 6 ∨ p1.toInt = 7 ∨ p1.toInt = 8 ∨ p1.toInt = 9 ∨ p1.toInt = 10 ∨ p1.toInt = 11 ∨ p1.toInt = 12 ∨ p1.toInt = 13 ∨ p1.toInt = 14 := by omega
  rcases e with e | e | e | e | e | e | e | e | e | e | e | e | e | e | e
  · have e : p1 = 0 := eq32.mpr e
    subst e; decide +kernel
  · have e : p1 = 1 := eq32.mpr e
    subst e; decide +kernel
  · have e : p1 = 2 := eq32.mpr e
    subst e; decide +kernel
  · have e : p1 = 3 := eq32.mpr e
    subst e; decide +kernel
  · have e : p1 = 4 := eq32.mpr e
    subst e; decide +kernel
  · have e : p1 = 5 := eq32.mpr e
    subst e; decide +kernel
  · have e : p1 = 6 := eq32.mpr e
    subst e; decide +kernel
  · have e : p1 = 7 := eq32.mpr e
    subst e; decide +kernel
  · have e : p1 = 8 := eq32.mpr e
    subst e; decide +kernel
  · have e : p1 = 9 := eq32.mpr e
    subst e; decide +kernel
  · have e : p1 = 10 := eq32.mpr e
    subst e; decide +kernel
  · have e : p1 = 11 := eq32.mpr e
    subst e; decide +kernel
  · have e : p1 = 12 := eq32.mpr e
    subst e; decide +kernel
  · have e : p1 = 13 := eq32.mpr e
    subst e; decide +kernel
  · have e : p1 = 14 := eq32.mpr e
    subst e; decide +kernel
theorem al_1 {p1 p2 : Int32} (h0 : 0 ≤ p1.toInt) (h1 : p1.toInt < 15) (g0 : (f_X10_leastOf p1).toInt ≤ p2.toInt) (g1 : p2.toInt ≤ (f_X10_mostOf p1).toInt) : f_X8_allows p1 p2 = 1 := by
  have b := pb h0 h1
  unfold f_X8_allows
  rw [b.2.1, b.2.2, if_neg (by rw [lt32]; simp only [Int32.reduceToInt]; omega), if_neg (by rw [le32]; simp only [Int32.reduceToInt]; omega), if_neg (by rw [le32]; simp only [Int32.reduceToInt]; omega), if_neg (by rw [lt32]; omega), if_neg (by rw [lt32]; omega)]
theorem al_0 {p1 p2 : Int32} (h0 : 0 ≤ p1.toInt) (h1 : p1.toInt < 15) (g : ¬ ((f_X10_leastOf p1).toInt ≤ p2.toInt ∧ p2.toInt ≤ (f_X10_mostOf p1).toInt)) : f_X8_allows p1 p2 = 0 := by
  have b := pb h0 h1
  unfold f_X8_allows
  rw [b.2.1, b.2.2, if_neg (by rw [lt32]; simp only [Int32.reduceToInt]; omega), if_neg (by rw [le32]; simp only [Int32.reduceToInt]; omega), if_neg (by rw [le32]; simp only [Int32.reduceToInt]; omega)]
  by_cases q : p2 < f_X10_leastOf p1
  · rw [if_pos q]
  · rw [if_neg q, if_pos]
    rw [lt32] at q ⊢
    omega
theorem ra_0 : f_X9_requireArgument 0 = 2 := rfl
theorem ra_1 : f_X9_requireArgument 1 = 0 := rfl
theorem rs_0 : f_X9_requireState 0 = 3 := rfl
theorem rs_1 : f_X9_requireState 1 = 0 := rfl
theorem rn_0 : f_X9_requireNoSession 0 = 0 := rfl
theorem rn_1 {state : Int32} (h : ¬ state = 0) : f_X9_requireNoSession state = 3 := if_neg h
theorem a_setParameter {c : Cf} {mode : Int32} {th : Int32} {last : Int32} {chg : Int32} {state : Int32} {time : Int32} {pos : Int32} {su : Int32} {st : Int32} {pl : Int32} {stalls : Int32} {aband : Int32} {fin : Int32} {sw : Int32} {wasted : Int64} {qual : Int64} {as : Int32} {aa : Nat → Int32} {going : Int32} {track : Int32} {seg : Int32} {rung : Int32} {wait : Int32} {dur : Int32} {need : Int64} {got : Int64} {len : Int32} {sg : Nat → Int32} {kept : Int32} {bits : Nat → Int64} {durs : Nat → Int64} {vs : Int32} {va : Nat → Int32} {va8 : Nat → Int32} {vn : Int32} {vr : Nat → Int32} {an : Int32} {ar : Nat → Int32} {tot : Int32} {ph : Int32} {ln : Nat → Int32} {fl : Nat → Int32} {p : Nat → Int32} {la : Nat → Int32} {ra : Nat → Int32} {pm : Int32} {lm : Nat → Int32} {fm : Nat → Int32} {has : Int32} {s : Nat → Int64} (W : WfC c) (K : CC c va8 vn vr an ar tot ph ln fl) (L : CM c p la ra pm lm fm) (E : SE c mode th last chg state time pos su st pl stalls aband fin sw wasted qual as aa going track seg rung wait dur need got len sg kept bits durs vs va has s) {r2 : Nat → Int64} {p1 p2 : Int32} : ∃ k u r b t v, f_L_setParameter state va8 r2 p1 p2 = some (k, u, r) ∧ f_X10_setParameter has p p1 p2 = some (b, t, v) ∧ t = k ∧ (k = 0 → r 0 = b.toInt64) ∧ ∃ d : Cf, WfC d ∧ CC d u vn vr an ar tot ph ln fl ∧ CM d v la ra pm lm fm ∧ SE d mode th last chg state time pos su st pl stalls aband fin sw wasted qual as aa going track seg rung wait dur need got len sg kept bits durs vs va has s := by
  by_cases hp : 0 ≤ p1.toInt ∧ p1.toInt < 15
  · have ix : f_X9_requireIndex p1 15 = 0 := ix_c hp.1 (by simp only [Int32.reduceToInt]; omega)
    have im : f_X10_in p1.toInt64 0 14 = 1 := in_i (by simp only [Int64.reduceToInt]; omega) (by simp only [Int64.reduceToInt]; omega)
    by_cases hq : (f_X10_leastOf p1).toInt ≤ p2.toInt ∧ p2.toInt ≤ (f_X10_mostOf p1).toInt
    · have al := al_1 hp.1 hp.2 hq.1 hq.2
      have iq : f_X10_in p2.toInt64 ((f_X10_leastOf p1).toInt64) ((f_X10_mostOf p1).toInt64) = 1 := in_c (by rw [tl, tl]; exact hq.1) (by rw [tl, tl]; exact hq.2)
      rcases E with ⟨rfl, rfl⟩ | E
      · have rv : f_X8_replaceValue va8 p1 p2 = (f_X8_valueOf va8 p1, upd va8 p1.toNatClampNeg p2) := by
          unfold f_X8_replaceValue
          rw [if_neg (by rw [lt32]; simp only [Int32.reduceToInt]; omega), if_neg (by rw [le32]; simp only [Int32.reduceToInt]; omega)]; rfl
        have ev : f_X8_valueOf va8 p1 = p p1.toNatClampNeg := by rw [vo hp.1 hp.2, eq32, tn, K.v _ (by omega), L.v _ (by omega)]
        refine ⟨0, upd va8 p1.toNatClampNeg p2, vp_updL r2 0 (f_X8_valueOf va8 p1).toInt64, p p1.toNatClampNeg, 0, upd p p1.toNatClampNeg p2, ?_, ?_, rfl, fun _ => by rw [updL_eq, ev], setV c p1.toInt.toNat p2.toInt, ?_, ?_, ?_, Or.inl ⟨rfl, rfl⟩⟩
        · simp [f_L_setParameter, f_X9_setParameter, bnd, bnd2, bnd3, ix, al, ra_1, rn_0, rv]
        · unfold f_X10_setParameter
          rw [im, if_neg one_z, iq, if_neg one_z, if_pos rfl, grd_v hp.1 (by omega), grd_v hp.1 (by omega)]; rfl
        · have b := pb hp.1 hp.2
          exact wf_set W ⟨by omega, by omega⟩
        · exact CC.mk (h_v := fun k hk => by { show (upd va8 p1.toNatClampNeg p2 k).toInt = updI c.v p1.toInt.toNat p2.toInt k; unfold upd updI; rw [tn]; split; { rfl }; { exact K.v k hk } }) (h_vn := K.vn) (h_an := K.an) (h_ph := K.ph) (h_tot := K.tot) (h_vr := K.vr) (h_ar := K.ar) (h_ln := K.ln) (h_fl := K.fl)
        · exact CM.mk (h_v := fun k hk => by { show (upd p p1.toNatClampNeg p2 k).toInt = updI c.v p1.toInt.toNat p2.toInt k; unfold upd updI; rw [tn]; split; { rfl }; { exact L.v k hk } }) (h_vn := L.vn) (h_an := L.an) (h_ph := L.ph) (h_vr := L.vr) (h_ar := L.ar) (h_ln := L.ln) (h_fl := L.fl)
      · have E2 := E
        obtain ⟨rfl, em, et, V, P, σ, S, tb, sq, R, M⟩ := E
        have rn := rn_1 (ne_st S R.state)
        exact ⟨3, va8, r2, 0, 3, p, by simp [f_L_setParameter, f_X9_setParameter, bnd, bnd2, bnd3, ix, al, ra_1, rn], by unfold f_X10_setParameter; rw [im, if_neg one_z, iq, if_neg one_z, if_neg one_z]; rfl, rfl, fun q => absurd q (by decide), c, W, K, L, Or.inr E2⟩
    · have al := al_0 hp.1 hp.2 hq
      have iq : f_X10_in p2.toInt64 ((f_X10_leastOf p1).toInt64) ((f_X10_mostOf p1).toInt64) = 0 := in_b (by rw [tl, tl, tl]; exact hq)
      exact ⟨2, va8, r2, 0, 2, p, by simp [f_L_setParameter, f_X9_setParameter, bnd, bnd2, bnd3, ix, al, ra_0], by unfold f_X10_setParameter; rw [im, if_neg one_z, iq, if_pos rfl]; rfl, rfl, fun q => absurd q (by decide), c, W, K, L, E⟩
  · have ix : f_X9_requireIndex p1 15 = 1 := ix_b (by simp only [Int32.reduceToInt]; omega)
    have im : f_X10_in p1.toInt64 0 14 = 0 := in_o (by simp only [Int64.reduceToInt]; omega)
    exact ⟨1, va8, r2, 0, 1, p, by simp [f_L_setParameter, f_X9_setParameter, bnd, bnd3, ix], by unfold f_X10_setParameter; rw [im, if_pos rfl]; rfl, rfl, fun q => absurd q (by decide), c, W, K, L, E⟩
def addV (c : Cf) (x : Int) : Cf := Cf.mk c.v (c.vn + 1) c.an c.ph c.tot (updI c.vr c.vn.toNat x) c.ar c.ln c.fl
def addA (c : Cf) (x : Int) : Cf := Cf.mk c.v c.vn (c.an + 1) c.ph c.tot c.vr (updI c.ar c.an.toNat x) c.ln c.fl
def addP (c : Cf) (x y : Int) : Cf := Cf.mk c.v c.vn c.an (c.ph + 1) c.tot c.vr c.ar (updI c.ln c.ph.toNat x) (updI c.fl c.ph.toNat y)
def noneC (c : Cf) : Cf := Cf.mk c.v 0 0 0 c.tot c.vr c.ar c.ln c.fl
theorem updI_r {f : Nat → Int} {n : Int} {x a b : Int} (n0 : 0 ≤ n) (hx : a ≤ x ∧ x ≤ b) (h : ∀ k : Nat, (k : Int) < n → a ≤ f k ∧ f k ≤ b) : ∀ k : Nat, (k : Int) < n + 1 → a ≤ updI f n.toNat x k ∧ updI f n.toNat x k ≤ b := fun k hk => by
  unfold updI
  split
  · exact hx
  · exact h k (by omega)
theorem upd_e {f : Nat → Int32} {g : Nat → Int} {n : Int} {m : Int32} {x : Int32} (hm : m.toInt = n) (h : ∀ k : Nat, (k : Int) < n → (f k).toInt = g k) : ∀ k : Nat, (k : Int) < n + 1 → (upd f m.toNatClampNeg x k).toInt = updI g n.toNat x.toInt k := fun k hk => by
  unfold upd updI
  rw [tn, hm]
  split
  · rfl
  · exact h k (by omega)
theorem wf_addV {c : Cf} (W : WfC c) {x : Int} (h : c.vn < 6) (hx : 1 ≤ x ∧ x ≤ 50000) : WfC (addV c x) := by
  have v0 := W.vn0
  exact WfC.mk (h_d0 := W.d0) (h_d1 := W.d1) (h_m0 := W.m0) (h_m1 := W.m1) (h_a2 := W.a2) (h_b2 := W.b2) (h_a3 := W.a3) (h_b3 := W.b3) (h_a4 := W.a4) (h_b4 := W.b4) (h_a5 := W.a5) (h_b5 := W.b5) (h_a6 := W.a6) (h_b6 := W.b6) (h_a7 := W.a7) (h_b7 := W.b7) (h_a8 := W.a8) (h_b8 := W.b8) (h_a9 := W.a9) (h_b9 := W.b9) (h_a10 := W.a10) (h_b10 := W.b10) (h_a11 := W.a11) (h_b11 := W.b11) (h_a12 := W.a12) (h_b12 := W.b12) (h_a13 := W.a13) (h_b13 := W.b13) (h_a14 := W.a14) (h_b14 := W.b14) (h_vn0 := (show 0 ≤ c.vn + 1 by omega)) (h_vn1 := (show c.vn + 1 ≤ 6 by omega)) (h_an0 := W.an0) (h_an1 := W.an1) (h_ph0 := W.ph0) (h_ph1 := W.ph1) (h_vr0 := updI_r v0 hx W.vr0) (h_ar0 := W.ar0) (h_ln0 := W.ln0) (h_fl0 := W.fl0)
theorem wf_addA {c : Cf} (W : WfC c) {x : Int} (h : c.an < 3) (hx : 1 ≤ x ∧ x ≤ 50000) : WfC (addA c x) := by
  have v0 := W.an0
  exact WfC.mk (h_d0 := W.d0) (h_d1 := W.d1) (h_m0 := W.m0) (h_m1 := W.m1) (h_a2 := W.a2) (h_b2 := W.b2) (h_a3 := W.a3) (h_b3 := W.b3) (h_a4 := W.a4) (h_b4 := W.b4) (h_a5 := W.a5) (h_b5 := W.b5) (h_a6 := W.a6) (h_b6 := W.b6) (h_a7 := W.a7) (h_b7 := W.b7) (h_a8 := W.a8) (h_b8 := W.b8) (h_a9 := W.a9) (h_b9 := W.b9) (h_a10 := W.a10) (h_b10 := W.b10) (h_a11 := W.a11) (h_b11 := W.b11) (h_a12 := W.a12) (h_b12 := W.b12) (h_a13 := W.a13) (h_b13 := W.b13) (h_a14 := W.a14) (h_b14 := W.b14) (h_vn0 := W.vn0) (h_vn1 := W.vn1) (h_an0 := (show 0 ≤ c.an + 1 by omega)) (h_an1 := (show c.an + 1 ≤ 3 by omega)) (h_ph0 := W.ph0) (h_ph1 := W.ph1) (h_vr0 := W.vr0) (h_ar0 := updI_r v0 hx W.ar0) (h_ln0 := W.ln0) (h_fl0 := W.fl0)
theorem wf_addP {c : Cf} (W : WfC c) {x y : Int} (h : c.ph < 20) (hx : 1 ≤ x ∧ x ≤ 100000) (hy : 0 ≤ y ∧ y ≤ 100000) : WfC (addP c x y) := by
  have v0 := W.ph0
  exact WfC.mk (h_d0 := W.d0) (h_d1 := W.d1) (h_m0 := W.m0) (h_m1 := W.m1) (h_a2 := W.a2) (h_b2 := W.b2) (h_a3 := W.a3) (h_b3 := W.b3) (h_a4 := W.a4) (h_b4 := W.b4) (h_a5 := W.a5) (h_b5 := W.b5) (h_a6 := W.a6) (h_b6 := W.b6) (h_a7 := W.a7) (h_b7 := W.b7) (h_a8 := W.a8) (h_b8 := W.b8) (h_a9 := W.a9) (h_b9 := W.b9) (h_a10 := W.a10) (h_b10 := W.b10) (h_a11 := W.a11) (h_b11 := W.b11) (h_a12 := W.a12) (h_b12 := W.b12) (h_a13 := W.a13) (h_b13 := W.b13) (h_a14 := W.a14) (h_b14 := W.b14) (h_vn0 := W.vn0) (h_vn1 := W.vn1) (h_an0 := W.an0) (h_an1 := W.an1) (h_ph0 := (show 0 ≤ c.ph + 1 by omega)) (h_ph1 := (show c.ph + 1 ≤ 20 by omega)) (h_vr0 := W.vr0) (h_ar0 := W.ar0) (h_ln0 := updI_r v0 hx W.ln0) (h_fl0 := updI_r v0 hy W.fl0)
theorem none_k {P : Nat → Prop} : ∀ k : Nat, (k : Int) < 0 → P k := fun k hk => by omega
theorem wf_none {c : Cf} (W : WfC c) : WfC (noneC c) :=
  WfC.mk (h_d0 := W.d0) (h_d1 := W.d1) (h_m0 := W.m0) (h_m1 := W.m1) (h_a2 := W.a2) (h_b2 := W.b2) (h_a3 := W.a3) (h_b3 := W.b3) (h_a4 := W.a4) (h_b4 := W.b4) (h_a5 := W.a5) (h_b5 := W.b5) (h_a6 := W.a6) (h_b6 := W.b6) (h_a7 := W.a7) (h_b7 := W.b7) (h_a8 := W.a8) (h_b8 := W.b8) (h_a9 := W.a9) (h_b9 := W.b9) (h_a10 := W.a10) (h_b10 := W.b10) (h_a11 := W.a11) (h_b11 := W.b11) (h_a12 := W.a12) (h_b12 := W.b12) (h_a13 := W.a13) (h_b13 := W.b13) (h_a14 := W.a14) (h_b14 := W.b14) (h_vn0 := Int.le_refl 0) (h_vn1 := (show (0 : Int) ≤ 6 by decide)) (h_an0 := Int.le_refl 0) (h_an1 := (show (0 : Int) ≤ 3 by decide)) (h_ph0 := Int.le_refl 0) (h_ph1 := (show (0 : Int) ≤ 20 by decide)) (h_vr0 := none_k) (h_ar0 := none_k) (h_ln0 := none_k) (h_fl0 := none_k)
theorem a_clear {c : Cf} {mode : Int32} {th : Int32} {last : Int32} {chg : Int32} {state : Int32} {time : Int32} {pos : Int32} {su : Int32} {st : Int32} {pl : Int32} {stalls : Int32} {aband : Int32} {fin : Int32} {sw : Int32} {wasted : Int64} {qual : Int64} {as : Int32} {aa : Nat → Int32} {going : Int32} {track : Int32} {seg : Int32} {rung : Int32} {wait : Int32} {dur : Int32} {need : Int64} {got : Int64} {len : Int32} {sg : Nat → Int32} {kept : Int32} {bits : Nat → Int64} {durs : Nat → Int64} {vs : Int32} {va : Nat → Int32} {va8 : Nat → Int32} {vn : Int32} {vr : Nat → Int32} {an : Int32} {ar : Nat → Int32} {tot : Int32} {ph : Int32} {ln : Nat → Int32} {fl : Nat → Int32} {p : Nat → Int32} {la : Nat → Int32} {ra : Nat → Int32} {pm : Int32} {lm : Nat → Int32} {fm : Nat → Int32} {has : Int32} {s : Nat → Int64} (W : WfC c) (K : CC c va8 vn vr an ar tot ph ln fl) (L : CM c p la ra pm lm fm) (E : SE c mode th last chg state time pos su st pl stalls aband fin sw wasted qual as aa going track seg rung wait dur need got len sg kept bits durs vs va has s) {r2 : Nat → Int64} : ∃ k an2 tot2 ph2 vn2 r b pm2 t la2, f_L_clear state an tot ph vn r2 = some (k, an2, tot2, ph2, vn2, r) ∧ f_X10_clear pm has la = (b, pm2, t, la2) ∧ t = k ∧ (k = 0 → r 0 = b.toInt64) ∧ ∃ d : Cf, WfC d ∧ CC d va8 vn2 vr an2 ar tot2 ph2 ln fl ∧ CM d p la2 ra pm2 lm fm ∧ SE d mode th last chg state time pos su st pl stalls aband fin sw wasted qual as aa going track seg rung wait dur need got len sg kept bits durs vs va has s := by
  rcases E with ⟨rfl, rfl⟩ | E
  · refine ⟨0, 0, 0, 0, 0, vp_updL r2 0 ph.toInt64, pm, 0, 0, upd (upd la 0 0) 1 0, ?_, ?_, rfl, fun _ => by rw [updL_eq, show ph = pm from eq32.mpr (K.ph.trans L.ph.symm)], noneC c, wf_none W, ?_, ?_, Or.inl ⟨rfl, rfl⟩⟩
    · simp [f_L_clear, f_X9_clear, bnd, bnd2, bnd4, bnd6, rn_0, f_X8_empty, f_X4_empty]
    · unfold f_X10_clear; rw [if_pos rfl]; rfl
    · exact CC.mk (h_v := K.v) (h_vn := rfl) (h_an := rfl) (h_ph := rfl) (h_tot := rfl) (h_vr := none_k) (h_ar := none_k) (h_ln := none_k) (h_fl := none_k)
    · exact CM.mk (h_v := L.v) (h_vn := (show (upd (upd la 0 0) 1 0 0).toInt = 0 by { unfold upd; rfl })) (h_an := (show (upd (upd la 0 0) 1 0 1).toInt = 0 by { unfold upd; rfl })) (h_ph := rfl) (h_vr := none_k) (h_ar := none_k) (h_ln := none_k) (h_fl := none_k)
  · have E2 := E
    obtain ⟨rfl, em, et, V, P, σ, S, tb, sq, R, M⟩ := E
    have rn := rn_1 (ne_st S R.state)
    exact ⟨1, an, tot, ph, vn, r2, 0, pm, 1, la, by simp [f_L_clear, f_X9_clear, bnd, bnd6, rn], by unfold f_X10_clear; rw [if_neg one_z]; rfl, rfl, fun q => absurd q (by decide), c, W, K, L, Or.inr E2⟩
theorem c_app {tot ph : Int32} {ln fl : Nat → Int32} {p1 p2 : Int32} (h0 : 0 ≤ ph.toInt) (h1 : ph.toInt < 20) : f_X4_append tot ph ln fl p1 p2 = (ph + 1, tot + p1, ph + 1, upd ln ph.toNatClampNeg p1, upd fl ph.toNatClampNeg p2) := by
  unfold f_X4_append
  rw [if_neg (by rw [lt32]; simp only [Int32.reduceToInt]; omega), if_neg (by rw [le32]; simp only [Int32.reduceToInt]; omega), if_neg (by rw [le32]; simp only [Int32.reduceToInt]; omega)]; rfl
theorem c_full4 {ph : Int32} : f_X4_isFull ph = if 20 ≤ ph.toInt then 1 else 0 := by
  unfold f_X4_isFull
  by_cases h : 20 ≤ ph.toInt
  · rw [if_pos (by rw [le32]; exact h), if_pos h]
  · rw [if_neg (by rw [le32]; exact h), if_pos (by rw [lt32]; simp only [Int32.reduceToInt]; omega), if_neg h]
theorem c_addP {state tot ph : Int32} {ln fl : Nat → Int32} {p1 p2 : Int32} (h : 1 ≤ p1.toInt ∧ p1.toInt ≤ 100000) (g : 0 ≤ p2.toInt ∧ p2.toInt ≤ 100000) : f_X9_addPhase state tot ph ln fl p1 p2 = if state = 0 then (if 20 ≤ ph.toInt then (3, 0, tot, ph, ln, fl) else bnd5 (f_X4_append tot ph ln fl p1 p2) fun y1 y2 y3 u4 u5 => (0, y1, y2, y3, u4, u5)) else (3, 0, tot, ph, ln, fl) := by
  have n1 : ¬ p1 < 1 := by rw [lt32]; simp only [Int32.reduceToInt]; omega
  have n2 : ¬ 100000 < p1 := by rw [lt32]; simp only [Int32.reduceToInt]; omega
  have n3 : ¬ p2 < 0 := by rw [lt32]; simp only [Int32.reduceToInt]; omega
  have n4 : ¬ 100000 < p2 := by rw [lt32]; simp only [Int32.reduceToInt]; omega
  have s0 : f_X9_addPhase state tot ph ln fl p1 p2 = bnd (f_X9_requireNoSession state) fun k => if k = 0 then (if f_X4_isFull ph = 0 then bnd5 (f_X4_append tot ph ln fl p1 p2) fun y1 y2 y3 u4 u5 => (0, y1, y2, y3, u4, u5) else (3, 0, tot, ph, ln, fl)) else (k, 0, tot, ph, ln, fl) := by
    unfold f_X9_addPhase
    rw [if_neg n1, if_neg n2, if_neg n3, if_neg n4]
    rfl
  rw [s0]
  by_cases hs : state = 0
  · rw [if_pos hs, hs, rn_0, bnd_p, if_pos rfl, c_full4]
    by_cases hf : 20 ≤ ph.toInt
    · rw [if_pos hf, if_neg one_z, if_pos hf]
    · rw [if_neg hf, if_pos rfl, if_neg hf]
  · rw [if_neg hs, rn_1 hs, bnd_p, if_neg (by decide)]
theorem c_addPx {state tot ph : Int32} {ln fl : Nat → Int32} {p1 p2 : Int32} (h : ¬ (1 ≤ p1.toInt ∧ p1.toInt ≤ 100000) ∨ ¬ (0 ≤ p2.toInt ∧ p2.toInt ≤ 100000)) : f_X9_addPhase state tot ph ln fl p1 p2 = (2, 0, tot, ph, ln, fl) := by
  unfold f_X9_addPhase
  by_cases a : p1 < 1
  · rw [if_pos a]; rfl
  · rw [if_neg a]
    by_cases b : 100000 < p1
    · rw [if_pos b]; rfl
    · rw [if_neg b]
      by_cases d : p2 < 0
      · rw [if_pos d]; rfl
      · rw [if_neg d]
        by_cases e : 100000 < p2
        · rw [if_pos e]; rfl
        · exfalso
          rw [lt32] at a b d e
          simp only [Int32.reduceToInt] at a b d e
          omega
theorem a_addPhase {c : Cf} {mode : Int32} {th : Int32} {last : Int32} {chg : Int32} {state : Int32} {time : Int32} {pos : Int32} {su : Int32} {st : Int32} {pl : Int32} {stalls : Int32} {aband : Int32} {fin : Int32} {sw : Int32} {wasted : Int64} {qual : Int64} {as : Int32} {aa : Nat → Int32} {going : Int32} {track : Int32} {seg : Int32} {rung : Int32} {wait : Int32} {dur : Int32} {need : Int64} {got : Int64} {len : Int32} {sg : Nat → Int32} {kept : Int32} {bits : Nat → Int64} {durs : Nat → Int64} {vs : Int32} {va : Nat → Int32} {va8 : Nat → Int32} {vn : Int32} {vr : Nat → Int32} {an : Int32} {ar : Nat → Int32} {tot : Int32} {ph : Int32} {ln : Nat → Int32} {fl : Nat → Int32} {p : Nat → Int32} {la : Nat → Int32} {ra : Nat → Int32} {pm : Int32} {lm : Nat → Int32} {fm : Nat → Int32} {has : Int32} {s : Nat → Int64} (W : WfC c) (K : CC c va8 vn vr an ar tot ph ln fl) (L : CM c p la ra pm lm fm) (E : SE c mode th last chg state time pos su st pl stalls aband fin sw wasted qual as aa going track seg rung wait dur need got len sg kept bits durs vs va has s) {r2 : Nat → Int64} {p1 p2 : Int32} : ∃ k tot2 ph2 ln2 fl2 r b pm2 t fm2 lm2, f_L_addPhase state tot ph ln fl r2 p1 p2 = some (k, tot2, ph2, ln2, fl2, r) ∧ f_X10_addPhase pm has fm lm p1 p2 = some (b, pm2, t, fm2, lm2) ∧ t = k ∧ (k = 0 → r 0 = b.toInt64) ∧ ∃ d : Cf, WfC d ∧ CC d va8 vn vr an ar tot2 ph2 ln2 fl2 ∧ CM d p la ra pm2 lm2 fm2 ∧ SE d mode th last chg state time pos su st pl stalls aband fin sw wasted qual as aa going track seg rung wait dur need got len sg kept bits durs vs va has s := by
  have p0 := W.ph0
  have p20 := W.ph1
  have Kp := K.ph
  have Lp := L.ph
  have Kt := K.tot
  by_cases h : 1 ≤ p1.toInt ∧ p1.toInt ≤ 100000
  · have i1 : f_X10_in p1.toInt64 1 100000 = 1 := in_i h.1 h.2
    by_cases g : 0 ≤ p2.toInt ∧ p2.toInt ≤ 100000
    · have i2 : f_X10_in p2.toInt64 0 100000 = 1 := in_i g.1 g.2
      rcases E with ⟨rfl, rfl⟩ | E
      · by_cases f : 20 ≤ c.ph
        · have e : f_X9_addPhase 0 tot ph ln fl p1 p2 = (3, 0, tot, ph, ln, fl) := by rw [c_addP h g, if_pos rfl, if_pos (by omega)]
          exact ⟨2, tot, ph, ln, fl, r2, 0, pm, 2, fm, lm, by simp [f_L_addPhase, e, bnd6], by unfold f_X10_addPhase; rw [i1, if_neg one_z, i2, if_neg one_z, if_pos rfl, if_pos (by rw [eq32]; simp only [Int32.reduceToInt]; omega)]; rfl, rfl, fun q => absurd q (by decide), c, W, K, L, Or.inl ⟨rfl, rfl⟩⟩
        · have e : f_X9_addPhase 0 tot ph ln fl p1 p2 = (0, ph + 1, tot + p1, ph + 1, upd ln ph.toNatClampNeg p1, upd fl ph.toNatClampNeg p2) := by rw [c_addP h g, if_pos rfl, if_neg (by omega), c_app (by omega) (by omega)]; rfl
          have e1 : (ph + 1).toInt = c.ph + 1 := by rw [add32 (by simp only [Int32.reduceToInt]; omega) (by simp only [Int32.reduceToInt]; omega), Kp]; rfl
          have e2 : (pm + 1).toInt = c.ph + 1 := by rw [add32 (by simp only [Int32.reduceToInt]; omega) (by simp only [Int32.reduceToInt]; omega), Lp]; rfl
          have sb := sum_b (f := c.ln) (B := 100000) c.ph.toNat (fun k hk => W.ln0 k (by omega))
          have e3 : (tot + p1).toInt = sumN c.ln c.ph.toNat + p1.toInt := by rw [add32 (by omega) (by omega), Kt]
          have e4 : (c.ph + 1).toNat = c.ph.toNat + 1 := by omega
          have su : ∀ n : Nat, n ≤ c.ph.toNat → sumN (updI c.ln c.ph.toNat p1.toInt) n = sumN c.ln n := fun n => by
            induction n with
            | zero => intro _; rfl
            | succ n ih => intro hn; unfold sumN; rw [ih (by omega)]; unfold updI; rw [if_neg (by omega)]
          refine ⟨0, tot + p1, ph + 1, upd ln ph.toNatClampNeg p1, upd fl ph.toNatClampNeg p2, vp_updL r2 0 (ph + 1).toInt64, pm + 1, pm + 1, 0, upd fm pm.toNatClampNeg p2, upd lm pm.toNatClampNeg p1, by simp [f_L_addPhase, e, bnd, bnd6], ?_, rfl, fun _ => by rw [updL_eq, show ph + 1 = pm + 1 from eq32.mpr (e1.trans e2.symm)], addP c p1.toInt p2.toInt, wf_addP W (by omega) h g, ?_, ?_, Or.inl ⟨rfl, rfl⟩⟩
          · unfold f_X10_addPhase
            rw [i1, if_neg one_z, i2, if_neg one_z, if_pos rfl, if_neg (by rw [eq32]; simp only [Int32.reduceToInt]; omega), grd_v (by omega) (by omega)]
            simp only [bnd]
            rw [grd_v (by omega) (by omega)]
          · refine CC.mk (h_v := K.v) (h_vn := K.vn) (h_an := K.an) (h_ph := e1) (h_tot := ?_) (h_vr := K.vr) (h_ar := K.ar) (h_ln := upd_e Kp K.ln) (h_fl := upd_e Kp K.fl)
            show (tot + p1).toInt = sumN (updI c.ln c.ph.toNat p1.toInt) (c.ph + 1).toNat
            rw [e3, e4, sumN, su _ (Nat.le_refl _)]
            unfold updI
            rw [if_pos rfl]
          · exact CM.mk (h_v := L.v) (h_vn := L.vn) (h_an := L.an) (h_ph := e2) (h_vr := L.vr) (h_ar := L.ar) (h_ln := upd_e Lp L.ln) (h_fl := upd_e Lp L.fl)
      · have E2 := E
        obtain ⟨rfl, em, et, V, P, σ, S, tb, sq, R, M⟩ := E
        have e : f_X9_addPhase state tot ph ln fl p1 p2 = (3, 0, tot, ph, ln, fl) := by rw [c_addP h g, if_neg (ne_st S R.state)]
        exact ⟨2, tot, ph, ln, fl, r2, 0, pm, 2, fm, lm, by simp [f_L_addPhase, e, bnd6], by unfold f_X10_addPhase; rw [i1, if_neg one_z, i2, if_neg one_z, if_neg one_z]; rfl, rfl, fun q => absurd q (by decide), c, W, K, L, Or.inr E2⟩
    · have e : f_X9_addPhase state tot ph ln fl p1 p2 = (2, 0, tot, ph, ln, fl) := c_addPx (Or.inr g)
      have i2 : f_X10_in p2.toInt64 0 100000 = 0 := in_o g
      exact ⟨1, tot, ph, ln, fl, r2, 0, pm, 1, fm, lm, by simp [f_L_addPhase, e, bnd6], by unfold f_X10_addPhase; rw [i1, if_neg one_z, i2, if_pos rfl]; rfl, rfl, fun q => absurd q (by decide), c, W, K, L, E⟩
  · have e : f_X9_addPhase state tot ph ln fl p1 p2 = (2, 0, tot, ph, ln, fl) := c_addPx (Or.inl h)
    have i1 : f_X10_in p1.toInt64 1 100000 = 0 := in_o h
    exact ⟨1, tot, ph, ln, fl, r2, 0, pm, 1, fm, lm, by simp [f_L_addPhase, e, bnd6], by unfold f_X10_addPhase; rw [i1, if_pos rfl]; rfl, rfl, fun q => absurd q (by decide), c, W, K, L, E⟩
theorem c_full2 {m v : Int32} (hm : m.toInt ≤ 6) : f_X2_isFull m v = if m.toInt ≤ v.toInt then 1 else 0 := by
  unfold f_X2_isFull
  by_cases h : m.toInt ≤ v.toInt
  · rw [if_pos (by rw [le32]; exact h), if_pos h]
  · rw [if_neg (by rw [le32]; exact h), if_pos (by rw [lt32]; simp only [Int32.reduceToInt]; omega), if_neg h]
theorem c_top2 {v x : Int32} {r : Nat → Int32} (h0 : 0 ≤ v.toInt) (h1 : v.toInt < 6) : f_X2_addTop v r x = ((v + 1) - 1, v + 1, upd r v.toNatClampNeg x) := by
  unfold f_X2_addTop
  rw [if_neg (by rw [lt32]; simp only [Int32.reduceToInt]; omega), if_neg (by rw [le32]; simp only [Int32.reduceToInt]; omega)]; rfl
/-- the rate on top of a ladder, 0 if there is none -/
def topI (n : Int) (f : Nat → Int) : Int := if n ≤ 0 then 0 else f (n - 1).toNat
theorem c_rt {v : Int32} {r : Nat → Int32} {n : Int} {f : Nat → Int} (hv : v.toInt = n) (n0 : 0 ≤ n) (n6 : n ≤ 6) (hr : ∀ k : Nat, (k : Int) < n → (r k).toInt = f k) : (f_X2_topRate v r).toInt = topI n f := by
  have e : (v - 1).toInt = n - 1 := by rw [sub32 (by simp only [Int32.reduceToInt]; omega) (by simp only [Int32.reduceToInt]; omega), hv]; rfl
  unfold f_X2_topRate topI
  by_cases h : n ≤ 0
  · rw [if_pos h]; unfold f_X2_rateOf; rw [if_pos (by rw [lt32]; simp only [Int32.reduceToInt]; omega)]; rfl
  · rw [if_neg h, ro (by omega) (by omega), e]; exact hr _ (by omega)
theorem c_addR0 {state an vn p2 : Int32} {ar vr : Nat → Int32} : f_X9_addRung state 3 an ar 6 vn vr 0 p2 = if p2.toInt ≤ 50000 ∧ (f_X2_topRate vn vr).toInt < p2.toInt then (if state = 0 then (if (6 : Int32).toInt ≤ vn.toInt then (3, 0, an, ar, vn, vr) else (0, (f_X2_addTop vn vr p2).1, an, ar, (f_X2_addTop vn vr p2).2.1, (f_X2_addTop vn vr p2).2.2)) else (3, 0, an, ar, vn, vr)) else (2, 0, an, ar, vn, vr) := by
  have s0 : f_X9_addRung state 3 an ar 6 vn vr 0 p2 = (if 50000 < p2 then (2, 0, an, ar, vn, vr) else if p2 ≤ f_X2_topRate vn vr then (2, 0, an, ar, vn, vr) else bnd (f_X9_requireNoSession state) fun k => if k = 0 then (if f_X2_isFull 6 vn = 0 then (0, (f_X2_addTop vn vr p2).1, an, ar, (f_X2_addTop vn vr p2).2.1, (f_X2_addTop vn vr p2).2.2) else (3, 0, an, ar, vn, vr)) else (k, 0, an, ar, vn, vr)) := rfl
  rw [s0]
  by_cases a : 50000 < p2
  · rw [if_pos a, if_neg (fun q => by { rw [lt32] at a; simp only [Int32.reduceToInt] at a; omega })]
  · rw [if_neg a]
    by_cases b : p2 ≤ f_X2_topRate vn vr
    · rw [if_pos b, if_neg (fun q => by { rw [le32] at b; omega })]
    · rw [if_neg b, if_pos (show p2.toInt ≤ 50000 ∧ (f_X2_topRate vn vr).toInt < p2.toInt by { rw [lt32] at a; simp only [Int32.reduceToInt] at a; rw [le32] at b; omega })]
      by_cases hs : state = 0
      · rw [if_pos hs, hs, rn_0, bnd_p, if_pos rfl, c_full2 (by decide)]
        by_cases hf : (6 : Int32).toInt ≤ vn.toInt
        · rw [if_pos hf, if_neg one_z, if_pos hf]
        · rw [if_neg hf, if_pos rfl, if_neg hf]
      · rw [if_neg hs, rn_1 hs, bnd_p, if_neg (by decide)]
theorem c_addR1 {state an vn p2 : Int32} {ar vr : Nat → Int32} : f_X9_addRung state 3 an ar 6 vn vr 1 p2 = if p2.toInt ≤ 50000 ∧ (f_X2_topRate an ar).toInt < p2.toInt then (if state = 0 then (if (3 : Int32).toInt ≤ an.toInt then (3, 0, an, ar, vn, vr) else (0, (f_X2_addTop an ar p2).1, (f_X2_addTop an ar p2).2.1, (f_X2_addTop an ar p2).2.2, vn, vr)) else (3, 0, an, ar, vn, vr)) else (2, 0, an, ar, vn, vr) := by
  have s0 : f_X9_addRung state 3 an ar 6 vn vr 1 p2 = (if 50000 < p2 then (2, 0, an, ar, vn, vr) else if p2 ≤ f_X2_topRate an ar then (2, 0, an, ar, vn, vr) else bnd (f_X9_requireNoSession state) fun k => if k = 0 then (if f_X2_isFull 3 an = 0 then (0, (f_X2_addTop an ar p2).1, (f_X2_addTop an ar p2).2.1, (f_X2_addTop an ar p2).2.2, vn, vr) else (3, 0, an, ar, vn, vr)) else (k, 0, an, ar, vn, vr)) := rfl
  rw [s0]
  by_cases a : 50000 < p2
  · rw [if_pos a, if_neg (fun q => by { rw [lt32] at a; simp only [Int32.reduceToInt] at a; omega })]
  · rw [if_neg a]
    by_cases b : p2 ≤ f_X2_topRate an ar
    · rw [if_pos b, if_neg (fun q => by { rw [le32] at b; omega })]
    · rw [if_neg b, if_pos (show p2.toInt ≤ 50000 ∧ (f_X2_topRate an ar).toInt < p2.toInt by { rw [lt32] at a; simp only [Int32.reduceToInt] at a; rw [le32] at b; omega })]
      by_cases hs : state = 0
      · rw [if_pos hs, hs, rn_0, bnd_p, if_pos rfl, c_full2 (by decide)]
        by_cases hf : (3 : Int32).toInt ≤ an.toInt
        · rw [if_pos hf, if_neg one_z, if_pos hf]
        · rw [if_neg hf, if_pos rfl, if_neg hf]
      · rw [if_neg hs, rn_1 hs, bnd_p, if_neg (by decide)]
theorem a_addR0 {c : Cf} {mode : Int32} {th : Int32} {last : Int32} {chg : Int32} {state : Int32} {time : Int32} {pos : Int32} {su : Int32} {st : Int32} {pl : Int32} {stalls : Int32} {aband : Int32} {fin : Int32} {sw : Int32} {wasted : Int64} {qual : Int64} {as : Int32} {aa : Nat → Int32} {going : Int32} {track : Int32} {seg : Int32} {rung : Int32} {wait : Int32} {dur : Int32} {need : Int64} {got : Int64} {len : Int32} {sg : Nat → Int32} {kept : Int32} {bits : Nat → Int64} {durs : Nat → Int64} {vs : Int32} {va : Nat → Int32} {va8 : Nat → Int32} {vn : Int32} {vr : Nat → Int32} {an : Int32} {ar : Nat → Int32} {tot : Int32} {ph : Int32} {ln : Nat → Int32} {fl : Nat → Int32} {p : Nat → Int32} {la : Nat → Int32} {ra : Nat → Int32} {pm : Int32} {lm : Nat → Int32} {fm : Nat → Int32} {has : Int32} {s : Nat → Int64} (W : WfC c) (K : CC c va8 vn vr an ar tot ph ln fl) (L : CM c p la ra pm lm fm) (E : SE c mode th last chg state time pos su st pl stalls aband fin sw wasted qual as aa going track seg rung wait dur need got len sg kept bits durs vs va has s) {r2 : Nat → Int64} {p2 : Int32} : ∃ k an2 ar2 vn2 vr2 r b t la2 ra2, f_L_addRung state 3 an ar 6 vn vr r2 0 p2 = some (k, an2, ar2, vn2, vr2, r) ∧ f_X10_addRung has la ra 0 p2 = some (b, t, la2, ra2) ∧ t = k ∧ (k = 0 → r 0 = b.toInt64) ∧ ∃ d : Cf, WfC d ∧ CC d va8 vn2 vr2 an2 ar2 tot ph ln fl ∧ CM d p la2 ra2 pm lm fm ∧ SE d mode th last chg state time pos su st pl stalls aband fin sw wasted qual as aa going track seg rung wait dur need got len sg kept bits durs vs va has s := by
  have v0 := W.vn0
  have v1 := W.vn1
  have kv := K.vn
  have lv := L.vn
  have rt := c_rt kv v0 (by omega) K.vr
  have im : f_X10_in ((0 : Int32).toInt64) 0 1 = 1 := rfl
  have gn : ((0 : Int32)).toNatClampNeg = 0 := rfl
  have e1 : (la 0 - 1).toInt = c.vn - 1 := by rw [sub32 (by simp only [Int32.reduceToInt]; omega) (by simp only [Int32.reduceToInt]; omega), lv]; rfl
  have key : f_X10_addRung has la ra 0 p2 = if p2.toInt ≤ 50000 ∧ topI c.vn c.vr < p2.toInt then f_X10_addRung_b66 has 0 la ra 0 p2 else some (0, 2, la, ra) := by
    unfold f_X10_addRung
    rw [im, if_neg one_z, gn]
    by_cases a : 1 ≤ p2.toInt ∧ p2.toInt ≤ 50000
    · rw [show f_X10_in p2.toInt64 1 50000 = 1 from in_i a.1 a.2, if_neg one_z, grd_v (by decide) (by decide)]
      unfold topI
      by_cases z : c.vn ≤ 0
      · rw [if_pos (by rw [le32, lv]; exact z), if_pos z, if_pos ⟨a.2, by omega⟩]
      · have x1 := L.vr (c.vn - 1).toNat (by omega)
        have ea : (6 * (0 : Int32).toInt + ((la 0 - 1).toInt64).toInt).toNat = (c.vn - 1).toNat := by rw [tl, e1]; simp only [Int32.reduceToInt]; omega
        rw [if_neg (by rw [le32, lv]; exact z), if_neg z, grd_v (by decide) (by decide), m_rate (by decide) (by decide) (by rw [tl]; omega) (by rw [tl]; omega), obnd_some, ea]
        by_cases b : c.vr (c.vn - 1).toNat < p2.toInt
        · rw [if_pos (by rw [lt32, x1]; exact b), if_pos ⟨a.2, b⟩]
        · rw [if_neg (by rw [lt32, x1]; exact b), if_neg (fun q => b q.2)]; rfl
    · rw [show f_X10_in p2.toInt64 1 50000 = 0 from in_o a, if_pos rfl, if_neg]
      · rfl
      · intro q
        have t0 : 0 ≤ topI c.vn c.vr := by
          unfold topI
          split
          · omega
          · have := (W.vr0 (c.vn - 1).toNat (by omega)).1; omega
        omega
  by_cases q : p2.toInt ≤ 50000 ∧ topI c.vn c.vr < p2.toInt
  · have t0 : 0 ≤ topI c.vn c.vr := by
      unfold topI
      split
      · omega
      · have := (W.vr0 (c.vn - 1).toNat (by omega)).1; omega
    rw [if_pos q] at key
    have cq : p2.toInt ≤ 50000 ∧ (f_X2_topRate vn vr).toInt < p2.toInt := by rw [rt]; exact q
    rcases E with ⟨rfl, rfl⟩ | E
    · by_cases f : 6 ≤ c.vn
      · have e : f_X9_addRung 0 3 an ar 6 vn vr 0 p2 = (3, 0, an, ar, vn, vr) := by rw [c_addR0, if_pos cq, if_pos rfl, if_pos (by rw [kv]; simp only [Int32.reduceToInt]; omega)]
        refine ⟨3, an, ar, vn, vr, r2, 0, 3, la, ra, by simp [f_L_addRung, e, bnd6], ?_, rfl, fun q => absurd q (by decide), c, W, K, L, Or.inl ⟨rfl, rfl⟩⟩
        rw [key]
        unfold f_X10_addRung_b66
        rw [if_pos rfl, grd_v (by decide) (by decide), if_pos rfl, gn]
        unfold f_X10_addRung_b89
        rw [if_pos (by rw [eq32, lv]; simp only [Int32.reduceToInt]; omega)]; rfl
      · have e : f_X9_addRung 0 3 an ar 6 vn vr 0 p2 = (0, (vn + 1) - 1, an, ar, vn + 1, upd vr vn.toNatClampNeg p2) := by rw [c_addR0, if_pos cq, if_pos rfl, if_neg (by rw [kv]; simp only [Int32.reduceToInt]; omega), c_top2 (by omega) (by omega)]
        have x2 : (vn + 1).toInt = c.vn + 1 := by rw [add32 (by simp only [Int32.reduceToInt]; omega) (by simp only [Int32.reduceToInt]; omega), kv]; rfl
        have x3 : (la 0 + 1).toInt = c.vn + 1 := by rw [add32 (by simp only [Int32.reduceToInt]; omega) (by simp only [Int32.reduceToInt]; omega), lv]; rfl
        have x4 : ((6 * (0 : Int32)) + la 0).toInt = 0 + c.vn := by rw [add32 (by simp only [show (6 * (0 : Int32)).toInt = 0 from by decide]; omega) (by simp only [show (6 * (0 : Int32)).toInt = 0 from by decide]; omega), lv]; rfl
        have x5 : ((6 * (0 : Int32)) + la 0).toNatClampNeg = c.vn.toNat := by rw [tn, x4]; omega
        have u1 : upd la 0 (la 0 + 1) 0 = la 0 + 1 := by unfold upd; rw [if_pos rfl]
        refine ⟨0, an, ar, vn + 1, upd vr vn.toNatClampNeg p2, vp_updL r2 0 ((vn + 1) - 1).toInt64, (la 0 + 1) - 1, 0, upd la 0 (la 0 + 1), upd ra (c.vn.toNat) p2, by simp [f_L_addRung, e, bnd, bnd6], ?_, rfl, fun _ => by rw [updL_eq, show vn + 1 = la 0 + 1 from eq32.mpr (x2.trans x3.symm)], addV c p2.toInt, wf_addV W (by omega) ⟨by omega, q.1⟩, ?_, ?_, Or.inl ⟨rfl, rfl⟩⟩
        · rw [key]
          unfold f_X10_addRung_b66
          rw [if_pos rfl, grd_v (by decide) (by decide), if_pos rfl, gn]
          unfold f_X10_addRung_b89
          rw [if_neg (by rw [eq32, lv]; simp only [Int32.reduceToInt]; omega), gn, grd_v (by decide) (by decide), grd_v (by omega) (by omega), x5]
          simp only [bnd]
          rw [grd_v (by decide) (by decide), grd_v (by decide) (by decide), grd_v (by decide) (by decide), u1]
        · exact CC.mk (h_v := K.v) (h_vn := x2) (h_an := K.an) (h_ph := K.ph) (h_tot := K.tot) (h_vr := upd_e kv K.vr) (h_ar := K.ar) (h_ln := K.ln) (h_fl := K.fl)
        · exact CM.mk (h_v := L.v) (h_vn := (show (upd la 0 (la 0 + 1) 0).toInt = c.vn + 1 by { rw [u1]; exact x3 })) (h_an := (show (upd la 0 (la 0 + 1) 1).toInt = c.an by { unfold upd; rw [if_neg (by decide)]; exact L.an })) (h_ph := L.ph) (h_vr := (fun k hk => by { have hk : (k : Int) < c.vn + 1 := hk; show (upd ra c.vn.toNat p2 k).toInt = updI c.vr c.vn.toNat p2.toInt k; unfold upd updI; split; { rfl }; { exact L.vr k (by omega) } })) (h_ar := (fun k hk => by { show (upd ra c.vn.toNat p2 (6 + k)).toInt = c.ar k; unfold upd; rw [if_neg (by omega)]; exact L.ar k hk })) (h_ln := L.ln) (h_fl := L.fl)
    · have E2 := E
      obtain ⟨rfl, em, et, V, P, σ, S, tb, sq, R, M⟩ := E
      have e : f_X9_addRung state 3 an ar 6 vn vr 0 p2 = (3, 0, an, ar, vn, vr) := by rw [c_addR0, if_pos cq, if_neg (ne_st S R.state)]
      exact ⟨3, an, ar, vn, vr, r2, 0, 3, la, ra, by simp [f_L_addRung, e, bnd6], by rw [key]; unfold f_X10_addRung_b66; rw [if_neg one_z]; rfl, rfl, fun q => absurd q (by decide), c, W, K, L, Or.inr E2⟩
  · rw [if_neg q] at key
    have cq : ¬ (p2.toInt ≤ 50000 ∧ (f_X2_topRate vn vr).toInt < p2.toInt) := by rw [rt]; exact q
    have e : f_X9_addRung state 3 an ar 6 vn vr 0 p2 = (2, 0, an, ar, vn, vr) := by rw [c_addR0, if_neg cq]
    exact ⟨2, an, ar, vn, vr, r2, 0, 2, la, ra, by simp [f_L_addRung, e, bnd6], key, rfl, fun q => absurd q (by decide), c, W, K, L, E⟩
theorem a_addR1 {c : Cf} {mode : Int32} {th : Int32} {last : Int32} {chg : Int32} {state : Int32} {time : Int32} {pos : Int32} {su : Int32} {st : Int32} {pl : Int32} {stalls : Int32} {aband : Int32} {fin : Int32} {sw : Int32} {wasted : Int64} {qual : Int64} {as : Int32} {aa : Nat → Int32} {going : Int32} {track : Int32} {seg : Int32} {rung : Int32} {wait : Int32} {dur : Int32} {need : Int64} {got : Int64} {len : Int32} {sg : Nat → Int32} {kept : Int32} {bits : Nat → Int64} {durs : Nat → Int64} {vs : Int32} {va : Nat → Int32} {va8 : Nat → Int32} {vn : Int32} {vr : Nat → Int32} {an : Int32} {ar : Nat → Int32} {tot : Int32} {ph : Int32} {ln : Nat → Int32} {fl : Nat → Int32} {p : Nat → Int32} {la : Nat → Int32} {ra : Nat → Int32} {pm : Int32} {lm : Nat → Int32} {fm : Nat → Int32} {has : Int32} {s : Nat → Int64} (W : WfC c) (K : CC c va8 vn vr an ar tot ph ln fl) (L : CM c p la ra pm lm fm) (E : SE c mode th last chg state time pos su st pl stalls aband fin sw wasted qual as aa going track seg rung wait dur need got len sg kept bits durs vs va has s) {r2 : Nat → Int64} {p2 : Int32} : ∃ k an2 ar2 vn2 vr2 r b t la2 ra2, f_L_addRung state 3 an ar 6 vn vr r2 1 p2 = some (k, an2, ar2, vn2, vr2, r) ∧ f_X10_addRung has la ra 1 p2 = some (b, t, la2, ra2) ∧ t = k ∧ (k = 0 → r 0 = b.toInt64) ∧ ∃ d : Cf, WfC d ∧ CC d va8 vn2 vr2 an2 ar2 tot ph ln fl ∧ CM d p la2 ra2 pm lm fm ∧ SE d mode th last chg state time pos su st pl stalls aband fin sw wasted qual as aa going track seg rung wait dur need got len sg kept bits durs vs va has s := by
  have v0 := W.an0
  have v1 := W.an1
  have kv := K.an
  have lv := L.an
  have rt := c_rt kv v0 (by omega) K.ar
  have im : f_X10_in ((1 : Int32).toInt64) 0 1 = 1 := rfl
  have gn : ((1 : Int32)).toNatClampNeg = 1 := rfl
  have e1 : (la 1 - 1).toInt = c.an - 1 := by rw [sub32 (by simp only [Int32.reduceToInt]; omega) (by simp only [Int32.reduceToInt]; omega), lv]; rfl
  have key : f_X10_addRung has la ra 1 p2 = if p2.toInt ≤ 50000 ∧ topI c.an c.ar < p2.toInt then f_X10_addRung_b66 has 0 la ra 1 p2 else some (0, 2, la, ra) := by
    unfold f_X10_addRung
    rw [im, if_neg one_z, gn]
    by_cases a : 1 ≤ p2.toInt ∧ p2.toInt ≤ 50000
    · rw [show f_X10_in p2.toInt64 1 50000 = 1 from in_i a.1 a.2, if_neg one_z, grd_v (by decide) (by decide)]
      unfold topI
      by_cases z : c.an ≤ 0
      · rw [if_pos (by rw [le32, lv]; exact z), if_pos z, if_pos ⟨a.2, by omega⟩]
      · have x1 := L.ar (c.an - 1).toNat (by omega)
        have ea : (6 * (1 : Int32).toInt + ((la 1 - 1).toInt64).toInt).toNat = 6 + (c.an - 1).toNat := by rw [tl, e1]; simp only [Int32.reduceToInt]; omega
        rw [if_neg (by rw [le32, lv]; exact z), if_neg z, grd_v (by decide) (by decide), m_rate (by decide) (by decide) (by rw [tl]; omega) (by rw [tl]; omega), obnd_some, ea]
        by_cases b : c.ar (c.an - 1).toNat < p2.toInt
        · rw [if_pos (by rw [lt32, x1]; exact b), if_pos ⟨a.2, b⟩]
        · rw [if_neg (by rw [lt32, x1]; exact b), if_neg (fun q => b q.2)]; rfl
    · rw [show f_X10_in p2.toInt64 1 50000 = 0 from in_o a, if_pos rfl, if_neg]
      · rfl
      · intro q
        have t0 : 0 ≤ topI c.an c.ar := by
          unfold topI
          split
          · omega
          · have := (W.ar0 (c.an - 1).toNat (by omega)).1; omega
        omega
  by_cases q : p2.toInt ≤ 50000 ∧ topI c.an c.ar < p2.toInt
  · have t0 : 0 ≤ topI c.an c.ar := by
      unfold topI
      split
      · omega
      · have := (W.ar0 (c.an - 1).toNat (by omega)).1; omega
    rw [if_pos q] at key
    have cq : p2.toInt ≤ 50000 ∧ (f_X2_topRate an ar).toInt < p2.toInt := by rw [rt]; exact q
    rcases E with ⟨rfl, rfl⟩ | E
    · by_cases f : 3 ≤ c.an
      · have e : f_X9_addRung 0 3 an ar 6 vn vr 1 p2 = (3, 0, an, ar, vn, vr) := by rw [c_addR1, if_pos cq, if_pos rfl, if_pos (by rw [kv]; simp only [Int32.reduceToInt]; omega)]
        refine ⟨3, an, ar, vn, vr, r2, 0, 3, la, ra, by simp [f_L_addRung, e, bnd6], ?_, rfl, fun q => absurd q (by decide), c, W, K, L, Or.inl ⟨rfl, rfl⟩⟩
        rw [key]
        unfold f_X10_addRung_b66
        rw [if_pos rfl, grd_v (by decide) (by decide), if_neg one_z, gn]
        unfold f_X10_addRung_b89
        rw [if_pos (by rw [eq32, lv]; simp only [Int32.reduceToInt]; omega)]; rfl
      · have e : f_X9_addRung 0 3 an ar 6 vn vr 1 p2 = (0, (an + 1) - 1, an + 1, upd ar an.toNatClampNeg p2, vn, vr) := by rw [c_addR1, if_pos cq, if_pos rfl, if_neg (by rw [kv]; simp only [Int32.reduceToInt]; omega), c_top2 (by omega) (by omega)]
        have x2 : (an + 1).toInt = c.an + 1 := by rw [add32 (by simp only [Int32.reduceToInt]; omega) (by simp only [Int32.reduceToInt]; omega), kv]; rfl
        have x3 : (la 1 + 1).toInt = c.an + 1 := by rw [add32 (by simp only [Int32.reduceToInt]; omega) (by simp only [Int32.reduceToInt]; omega), lv]; rfl
        have x4 : ((6 * (1 : Int32)) + la 1).toInt = 6 + c.an := by rw [add32 (by simp only [show (6 * (1 : Int32)).toInt = 6 from by decide]; omega) (by simp only [show (6 * (1 : Int32)).toInt = 6 from by decide]; omega), lv]; rfl
        have x5 : ((6 * (1 : Int32)) + la 1).toNatClampNeg = 6 + c.an.toNat := by rw [tn, x4]; omega
        have u1 : upd la 1 (la 1 + 1) 1 = la 1 + 1 := by unfold upd; rw [if_pos rfl]
        refine ⟨0, an + 1, upd ar an.toNatClampNeg p2, vn, vr, vp_updL r2 0 ((an + 1) - 1).toInt64, (la 1 + 1) - 1, 0, upd la 1 (la 1 + 1), upd ra (6 + c.an.toNat) p2, by simp [f_L_addRung, e, bnd, bnd6], ?_, rfl, fun _ => by rw [updL_eq, show an + 1 = la 1 + 1 from eq32.mpr (x2.trans x3.symm)], addA c p2.toInt, wf_addA W (by omega) ⟨by omega, q.1⟩, ?_, ?_, Or.inl ⟨rfl, rfl⟩⟩
        · rw [key]
          unfold f_X10_addRung_b66
          rw [if_pos rfl, grd_v (by decide) (by decide), if_neg one_z, gn]
          unfold f_X10_addRung_b89
          rw [if_neg (by rw [eq32, lv]; simp only [Int32.reduceToInt]; omega), gn, grd_v (by decide) (by decide), grd_v (by omega) (by omega), x5]
          simp only [bnd]
          rw [grd_v (by decide) (by decide), grd_v (by decide) (by decide), grd_v (by decide) (by decide), u1]
        · exact CC.mk (h_v := K.v) (h_vn := K.vn) (h_an := x2) (h_ph := K.ph) (h_tot := K.tot) (h_vr := K.vr) (h_ar := upd_e kv K.ar) (h_ln := K.ln) (h_fl := K.fl)
        · exact CM.mk (h_v := L.v) (h_vn := (show (upd la 1 (la 1 + 1) 0).toInt = c.vn by { unfold upd; rw [if_neg (by decide)]; exact L.vn })) (h_an := (show (upd la 1 (la 1 + 1) 1).toInt = c.an + 1 by { rw [u1]; exact x3 })) (h_ph := L.ph) (h_vr := (fun k hk => by { have hk : (k : Int) < c.vn := hk; have := W.vn1; show (upd ra (6 + c.an.toNat) p2 k).toInt = c.vr k; unfold upd; rw [if_neg (by omega)]; exact L.vr k hk })) (h_ar := (fun k hk => by { have hk : (k : Int) < c.an + 1 := hk; show (upd ra (6 + c.an.toNat) p2 (6 + k)).toInt = updI c.ar c.an.toNat p2.toInt k; unfold upd updI; by_cases e : k = c.an.toNat; { rw [if_pos (by omega), if_pos e] }; { rw [if_neg (by omega), if_neg e]; exact L.ar k (by omega) } })) (h_ln := L.ln) (h_fl := L.fl)
    · have E2 := E
      obtain ⟨rfl, em, et, V, P, σ, S, tb, sq, R, M⟩ := E
      have e : f_X9_addRung state 3 an ar 6 vn vr 1 p2 = (3, 0, an, ar, vn, vr) := by rw [c_addR1, if_pos cq, if_neg (ne_st S R.state)]
      exact ⟨3, an, ar, vn, vr, r2, 0, 3, la, ra, by simp [f_L_addRung, e, bnd6], by rw [key]; unfold f_X10_addRung_b66; rw [if_neg one_z]; rfl, rfl, fun q => absurd q (by decide), c, W, K, L, Or.inr E2⟩
  · rw [if_neg q] at key
    have cq : ¬ (p2.toInt ≤ 50000 ∧ (f_X2_topRate an ar).toInt < p2.toInt) := by rw [rt]; exact q
    have e : f_X9_addRung state 3 an ar 6 vn vr 1 p2 = (2, 0, an, ar, vn, vr) := by rw [c_addR1, if_neg cq]
    exact ⟨2, an, ar, vn, vr, r2, 0, 2, la, ra, by simp [f_L_addRung, e, bnd6], key, rfl, fun q => absurd q (by decide), c, W, K, L, E⟩
theorem a_addRung {c : Cf} {mode : Int32} {th : Int32} {last : Int32} {chg : Int32} {state : Int32} {time : Int32} {pos : Int32} {su : Int32} {st : Int32} {pl : Int32} {stalls : Int32} {aband : Int32} {fin : Int32} {sw : Int32} {wasted : Int64} {qual : Int64} {as : Int32} {aa : Nat → Int32} {going : Int32} {track : Int32} {seg : Int32} {rung : Int32} {wait : Int32} {dur : Int32} {need : Int64} {got : Int64} {len : Int32} {sg : Nat → Int32} {kept : Int32} {bits : Nat → Int64} {durs : Nat → Int64} {vs : Int32} {va : Nat → Int32} {va8 : Nat → Int32} {vn : Int32} {vr : Nat → Int32} {an : Int32} {ar : Nat → Int32} {tot : Int32} {ph : Int32} {ln : Nat → Int32} {fl : Nat → Int32} {p : Nat → Int32} {la : Nat → Int32} {ra : Nat → Int32} {pm : Int32} {lm : Nat → Int32} {fm : Nat → Int32} {has : Int32} {s : Nat → Int64} (W : WfC c) (K : CC c va8 vn vr an ar tot ph ln fl) (L : CM c p la ra pm lm fm) (E : SE c mode th last chg state time pos su st pl stalls aband fin sw wasted qual as aa going track seg rung wait dur need got len sg kept bits durs vs va has s) {r2 : Nat → Int64} {p1 p2 : Int32} : ∃ k an2 ar2 vn2 vr2 r b t la2 ra2, f_L_addRung state 3 an ar 6 vn vr r2 p1 p2 = some (k, an2, ar2, vn2, vr2, r) ∧ f_X10_addRung has la ra p1 p2 = some (b, t, la2, ra2) ∧ t = k ∧ (k = 0 → r 0 = b.toInt64) ∧ ∃ d : Cf, WfC d ∧ CC d va8 vn2 vr2 an2 ar2 tot ph ln fl ∧ CM d p la2 ra2 pm lm fm ∧ SE d mode th last chg state time pos su st pl stalls aband fin sw wasted qual as aa going track seg rung wait dur need got len sg kept bits durs vs va has s := by
  by_cases hp : 0 ≤ p1.toInt ∧ p1.toInt < 2
  · have e : p1.toInt = 0 ∨ p1.toInt = 1 := by omega
    rcases e with e | e
    · have e : p1 = 0 := eq32.mpr e
      subst e
      exact a_addR0 W K L E
    · have e : p1 = 1 := eq32.mpr e
      subst e
      exact a_addR1 W K L E
  · have ix : f_X9_requireIndex p1 2 = 1 := ix_b (by simp only [Int32.reduceToInt]; omega)
    have im : f_X10_in p1.toInt64 0 1 = 0 := in_o (by simp only [Int64.reduceToInt]; omega)
    have e : f_X9_addRung state 3 an ar 6 vn vr p1 p2 = (1, 0, an, ar, vn, vr) := by unfold f_X9_addRung; rw [ix]; rfl
    exact ⟨1, an, ar, vn, vr, r2, 0, 1, la, ra, by simp [f_L_addRung, e, bnd6], by unfold f_X10_addRung; rw [im, if_pos rfl]; rfl, rfl, fun q => absurd q (by decide), c, W, K, L, E⟩
theorem a_bandwidth {c : Cf} {mode : Int32} {th : Int32} {last : Int32} {chg : Int32} {state : Int32} {time : Int32} {pos : Int32} {su : Int32} {st : Int32} {pl : Int32} {stalls : Int32} {aband : Int32} {fin : Int32} {sw : Int32} {wasted : Int64} {qual : Int64} {as : Int32} {aa : Nat → Int32} {going : Int32} {track : Int32} {seg : Int32} {rung : Int32} {wait : Int32} {dur : Int32} {need : Int64} {got : Int64} {len : Int32} {sg : Nat → Int32} {kept : Int32} {bits : Nat → Int64} {durs : Nat → Int64} {vs : Int32} {va : Nat → Int32} {va8 : Nat → Int32} {vn : Int32} {vr : Nat → Int32} {an : Int32} {ar : Nat → Int32} {tot : Int32} {ph : Int32} {ln : Nat → Int32} {fl : Nat → Int32} {p : Nat → Int32} {la : Nat → Int32} {ra : Nat → Int32} {pm : Int32} {lm : Nat → Int32} {fm : Nat → Int32} {has : Int32} {s : Nat → Int64} (W : WfC c) (K : CC c va8 vn vr an ar tot ph ln fl) (L : CM c p la ra pm lm fm) (E : SE c mode th last chg state time pos su st pl stalls aband fin sw wasted qual as aa going track seg rung wait dur need got len sg kept bits durs vs va has s) {r2 : Nat → Int64} {p1 : Int32} : Ag (f_L_bandwidth tot ph ln fl r2 p1) (f_X10_bandwidth pm fm lm p1) := by
  by_cases h : 0 ≤ p1.toInt
  · have ng : ¬ p1 < 0 := by rw [lt32]; simp only [Int32.reduceToInt]; omega
    have e := c_flow W K.tot K.ph K.ln K.fl h
    obtain ⟨z, hz, ez⟩ := m_flow (t := p1.toInt64) W L.ph L.ln L.fl (by rw [tl]; exact h)
    rw [tl] at ez
    refine ⟨0, vp_updL r2 0 (f_X4_rateAt tot ph ln fl p1).toInt64, z, 0, by simp [f_L_bandwidth, f_X9_bandwidth, ng, ra_1, bnd, bnd2], ?_, rfl, fun _ => by rw [updL_eq, show f_X4_rateAt tot ph ln fl p1 = z from eq32.mpr (e.trans ez.symm)]⟩
    unfold f_X10_bandwidth
    rw [if_pos (by rw [le32]; simp only [Int32.reduceToInt]; omega), hz]; rfl
  · have ng : p1 < 0 := by rw [lt32]; simp only [Int32.reduceToInt]; omega
    exact ⟨1, r2, 0, 1, by simp [f_L_bandwidth, f_X9_bandwidth, ng, ra_0, bnd, bnd2], by unfold f_X10_bandwidth; rw [if_neg (by rw [le32]; simp only [Int32.reduceToInt]; omega)]; rfl, rfl, fun q => absurd q (by decide)⟩
theorem t_size0 {c : Cf} {mode : Int32} {th : Int32} {last : Int32} {chg : Int32} {state : Int32} {time : Int32} {pos : Int32} {su : Int32} {st : Int32} {pl : Int32} {stalls : Int32} {aband : Int32} {fin : Int32} {sw : Int32} {wasted : Int64} {qual : Int64} {as : Int32} {aa : Nat → Int32} {going : Int32} {track : Int32} {seg : Int32} {rung : Int32} {wait : Int32} {dur : Int32} {need : Int64} {got : Int64} {len : Int32} {sg : Nat → Int32} {kept : Int32} {bits : Nat → Int64} {durs : Nat → Int64} {vs : Int32} {va : Nat → Int32} {va8 : Nat → Int32} {vn : Int32} {vr : Nat → Int32} {an : Int32} {ar : Nat → Int32} {tot : Int32} {ph : Int32} {ln : Nat → Int32} {fl : Nat → Int32} {p : Nat → Int32} {la : Nat → Int32} {ra : Nat → Int32} {pm : Int32} {lm : Nat → Int32} {fm : Nat → Int32} {has : Int32} {s : Nat → Int64} (W : WfC c) (K : CC c va8 vn vr an ar tot ph ln fl) (L : CM c p la ra pm lm fm) (E : SE c mode th last chg state time pos su st pl stalls aband fin sw wasted qual as aa going track seg rung wait dur need got len sg kept bits durs vs va has s) {p2 p3 : Int32} (r0 : 0 ≤ p2.toInt) (r1 : p2.toInt < c.vn) (s0 : 0 ≤ p3.toInt) (s1 : p3.toInt < c.v 1) : f_X10_sizeOf p ra 0 p2.toInt64 p3.toInt64 = some (f_X8_bitsOf_0 va8 vr 0 p2 p3) := by
  have m1 := W.m1
  have n0 := W.vn0
  have n1 := W.vn1
  have rb := W.vr0 p2.toInt.toNat (by omega)
  have ex := c_bits W (p0 := 0) (p1 := p2) (p2 := p3) (va := va8) (K.v 0 (by decide)) (K.vr p2.toInt.toNat (by omega)) (by omega) rb.2 (by decide) (by decide) r0 (by omega) s0 (by omega)
  have el := L.vr p2.toInt.toNat (by omega)
  have ei : (6 * (0 : Int32).toInt + p2.toInt64.toInt).toNat = p2.toInt.toNat := by rw [tl]; simp only [Int32.reduceToInt]; omega
  obtain ⟨z, hz, ez⟩ := m_size W (p0 := 0) (p1 := p2.toInt64) (p2 := p3.toInt64) (p := p) (ra := ra) (rate := c.vr p2.toInt.toNat) (L.v 0 (by decide)) (by rw [ei]; exact el) (by omega) rb.2 (by decide) (by decide) (by rw [tl]; exact r0) (by rw [tl]; omega) (by rw [tl]; exact s0) (by rw [tl]; omega)
  rw [tl, tl] at ez
  rw [hz]
  exact congrArg some (eq64.mpr (ez.trans ex.symm))
theorem a_size0 {c : Cf} {mode : Int32} {th : Int32} {last : Int32} {chg : Int32} {state : Int32} {time : Int32} {pos : Int32} {su : Int32} {st : Int32} {pl : Int32} {stalls : Int32} {aband : Int32} {fin : Int32} {sw : Int32} {wasted : Int64} {qual : Int64} {as : Int32} {aa : Nat → Int32} {going : Int32} {track : Int32} {seg : Int32} {rung : Int32} {wait : Int32} {dur : Int32} {need : Int64} {got : Int64} {len : Int32} {sg : Nat → Int32} {kept : Int32} {bits : Nat → Int64} {durs : Nat → Int64} {vs : Int32} {va : Nat → Int32} {va8 : Nat → Int32} {vn : Int32} {vr : Nat → Int32} {an : Int32} {ar : Nat → Int32} {tot : Int32} {ph : Int32} {ln : Nat → Int32} {fl : Nat → Int32} {p : Nat → Int32} {la : Nat → Int32} {ra : Nat → Int32} {pm : Int32} {lm : Nat → Int32} {fm : Nat → Int32} {has : Int32} {s : Nat → Int64} (W : WfC c) (K : CC c va8 vn vr an ar tot ph ln fl) (L : CM c p la ra pm lm fm) (E : SE c mode th last chg state time pos su st pl stalls aband fin sw wasted qual as aa going track seg rung wait dur need got len sg kept bits durs vs va has s) {r2 : Nat → Int64} {p2 p3 : Int32} : Al (f_L_size an ar va8 vn vr r2 0 p2 p3) (f_X10_size la p ra 0 p2 p3) := by
  have v1 : f_X8_valueOf va8 1 = va8 1 := vo (by decide) (by decide)
  have k1 := K.v 1 (by decide)
  have l1 := L.v 1 (by decide)
  have m0 := W.m0
  have m1 := W.m1
  have e2 : (p 1 - 1).toInt = c.v 1 - 1 := by rw [sub32 (by simp only [Int32.reduceToInt]; omega) (by simp only [Int32.reduceToInt]; omega), l1]; rfl
  have ix : f_X9_requireIndex 0 2 = 0 := ix_c (by decide) (by decide)
  have im : f_X10_in ((0 : Int32).toInt64) 0 1 = 1 := in_i (by decide) (by decide)
  have gn : ((0 : Int32)).toNatClampNeg = 0 := rfl
  have n0 := W.vn0
  have n1 := W.vn1
  have kv := K.vn
  have lv := L.vn
  have e1 : (la 0 - 1).toInt = c.vn - 1 := by rw [sub32 (by simp only [Int32.reduceToInt]; omega) (by simp only [Int32.reduceToInt]; omega), lv]; rfl
  have x0 : f_X9_size an ar va8 vn vr 0 p2 p3 = bnd (f_X9_requireIndex p2 vn) fun k4 => if k4 = 0 then bnd (f_X9_requireIndex p3 (va8 1)) fun k6 => (if k6 = 0 then (0, f_X8_bitsOf_0 va8 vr 0 p2 p3) else (k6, 0)) else (k4, 0) := by
    unfold f_X9_size
    rw [ix, bnd_p, if_pos rfl, if_pos rfl, v1]
  have y0 : f_X10_size la p ra 0 p2 p3 = if f_X10_in p2.toInt64 0 ((la 0 - 1).toInt64) = 0 then some (0, 1) else if f_X10_in p3.toInt64 0 ((p 1 - 1).toInt64) = 0 then some (0, 1) else obnd (f_X10_sizeOf p ra 0 p2.toInt64 p3.toInt64) fun z5 => some (z5, 0) := by
    unfold f_X10_size
    rw [im, if_neg one_z, grd_v (by decide) (by decide), gn]
  have no : f_X9_size an ar va8 vn vr 0 p2 p3 = (1, 0) → f_X10_size la p ra 0 p2 p3 = some (0, 1) → Al (f_L_size an ar va8 vn vr r2 0 p2 p3) (f_X10_size la p ra 0 p2 p3) := fun h1 h2 => ⟨1, r2, 0, 1, by unfold f_L_size; rw [h1]; rfl, h2, rfl, fun q => absurd q (by decide)⟩
  by_cases hr : 0 ≤ p2.toInt ∧ p2.toInt < c.vn
  · have iy : f_X9_requireIndex p2 vn = 0 := ix_c hr.1 (by omega)
    have my : f_X10_in p2.toInt64 0 ((la 0 - 1).toInt64) = 1 := in_i (by simp only [Int64.reduceToInt]; omega) (by rw [tl, e1]; omega)
    by_cases hs : 0 ≤ p3.toInt ∧ p3.toInt < c.v 1
    · have iz : f_X9_requireIndex p3 (va8 1) = 0 := ix_c hs.1 (by omega)
      have mz : f_X10_in p3.toInt64 0 ((p 1 - 1).toInt64) = 1 := in_i (by simp only [Int64.reduceToInt]; omega) (by rw [tl, e2]; omega)
      have ex := t_size0 W K L E hr.1 hr.2 hs.1 hs.2
      have x1 : f_X9_size an ar va8 vn vr 0 p2 p3 = (0, f_X8_bitsOf_0 va8 vr 0 p2 p3) := by rw [x0, iy, bnd_p, if_pos rfl, iz, bnd_p, if_pos rfl]
      refine ⟨0, vp_updL r2 0 (f_X8_bitsOf_0 va8 vr 0 p2 p3), f_X8_bitsOf_0 va8 vr 0 p2 p3, 0, by unfold f_L_size; rw [x1]; rfl, ?_, rfl, fun _ => updL_eq⟩
      rw [y0, my, if_neg one_z, mz, if_neg one_z, ex, obnd_some]
    · have iz : f_X9_requireIndex p3 (va8 1) = 1 := ix_b (by rw [k1]; exact hs)
      have mz : f_X10_in p3.toInt64 0 ((p 1 - 1).toInt64) = 0 := in_o (by rw [tl, e2]; simp only [Int64.reduceToInt]; omega)
      exact no (by rw [x0, iy, bnd_p, if_pos rfl, iz, bnd_p, if_neg (by decide)]) (by rw [y0, my, if_neg one_z, mz, if_pos rfl])
  · have iy : f_X9_requireIndex p2 vn = 1 := ix_b (by rw [kv]; exact hr)
    have my : f_X10_in p2.toInt64 0 ((la 0 - 1).toInt64) = 0 := in_o (by rw [tl, e1]; simp only [Int64.reduceToInt]; omega)
    exact no (by rw [x0, iy, bnd_p, if_neg (by decide)]) (by rw [y0, my, if_pos rfl])
theorem t_size1 {c : Cf} {mode : Int32} {th : Int32} {last : Int32} {chg : Int32} {state : Int32} {time : Int32} {pos : Int32} {su : Int32} {st : Int32} {pl : Int32} {stalls : Int32} {aband : Int32} {fin : Int32} {sw : Int32} {wasted : Int64} {qual : Int64} {as : Int32} {aa : Nat → Int32} {going : Int32} {track : Int32} {seg : Int32} {rung : Int32} {wait : Int32} {dur : Int32} {need : Int64} {got : Int64} {len : Int32} {sg : Nat → Int32} {kept : Int32} {bits : Nat → Int64} {durs : Nat → Int64} {vs : Int32} {va : Nat → Int32} {va8 : Nat → Int32} {vn : Int32} {vr : Nat → Int32} {an : Int32} {ar : Nat → Int32} {tot : Int32} {ph : Int32} {ln : Nat → Int32} {fl : Nat → Int32} {p : Nat → Int32} {la : Nat → Int32} {ra : Nat → Int32} {pm : Int32} {lm : Nat → Int32} {fm : Nat → Int32} {has : Int32} {s : Nat → Int64} (W : WfC c) (K : CC c va8 vn vr an ar tot ph ln fl) (L : CM c p la ra pm lm fm) (E : SE c mode th last chg state time pos su st pl stalls aband fin sw wasted qual as aa going track seg rung wait dur need got len sg kept bits durs vs va has s) {p2 p3 : Int32} (r0 : 0 ≤ p2.toInt) (r1 : p2.toInt < c.an) (s0 : 0 ≤ p3.toInt) (s1 : p3.toInt < c.v 1) : f_X10_sizeOf p ra 1 p2.toInt64 p3.toInt64 = some (f_X8_bitsOf_1 ar va8 1 p2 p3) := by
  have m1 := W.m1
  have n0 := W.an0
  have n1 := W.an1
  have rb := W.ar0 p2.toInt.toNat (by omega)
  have ex := c_bits W (p0 := 1) (p1 := p2) (p2 := p3) (va := va8) (K.v 0 (by decide)) (K.ar p2.toInt.toNat (by omega)) (by omega) rb.2 (by decide) (by decide) r0 (by omega) s0 (by omega)
  have el := L.ar p2.toInt.toNat (by omega)
  have ei : (6 * (1 : Int32).toInt + p2.toInt64.toInt).toNat = 6 + p2.toInt.toNat := by rw [tl]; simp only [Int32.reduceToInt]; omega
  obtain ⟨z, hz, ez⟩ := m_size W (p0 := 1) (p1 := p2.toInt64) (p2 := p3.toInt64) (p := p) (ra := ra) (rate := c.ar p2.toInt.toNat) (L.v 0 (by decide)) (by rw [ei]; exact el) (by omega) rb.2 (by decide) (by decide) (by rw [tl]; exact r0) (by rw [tl]; omega) (by rw [tl]; exact s0) (by rw [tl]; omega)
  rw [tl, tl] at ez
  rw [hz, c_bits1]
  exact congrArg some (eq64.mpr (ez.trans ex.symm))
theorem a_size1 {c : Cf} {mode : Int32} {th : Int32} {last : Int32} {chg : Int32} {state : Int32} {time : Int32} {pos : Int32} {su : Int32} {st : Int32} {pl : Int32} {stalls : Int32} {aband : Int32} {fin : Int32} {sw : Int32} {wasted : Int64} {qual : Int64} {as : Int32} {aa : Nat → Int32} {going : Int32} {track : Int32} {seg : Int32} {rung : Int32} {wait : Int32} {dur : Int32} {need : Int64} {got : Int64} {len : Int32} {sg : Nat → Int32} {kept : Int32} {bits : Nat → Int64} {durs : Nat → Int64} {vs : Int32} {va : Nat → Int32} {va8 : Nat → Int32} {vn : Int32} {vr : Nat → Int32} {an : Int32} {ar : Nat → Int32} {tot : Int32} {ph : Int32} {ln : Nat → Int32} {fl : Nat → Int32} {p : Nat → Int32} {la : Nat → Int32} {ra : Nat → Int32} {pm : Int32} {lm : Nat → Int32} {fm : Nat → Int32} {has : Int32} {s : Nat → Int64} (W : WfC c) (K : CC c va8 vn vr an ar tot ph ln fl) (L : CM c p la ra pm lm fm) (E : SE c mode th last chg state time pos su st pl stalls aband fin sw wasted qual as aa going track seg rung wait dur need got len sg kept bits durs vs va has s) {r2 : Nat → Int64} {p2 p3 : Int32} : Al (f_L_size an ar va8 vn vr r2 1 p2 p3) (f_X10_size la p ra 1 p2 p3) := by
  have v1 : f_X8_valueOf va8 1 = va8 1 := vo (by decide) (by decide)
  have k1 := K.v 1 (by decide)
  have l1 := L.v 1 (by decide)
  have m0 := W.m0
  have m1 := W.m1
  have e2 : (p 1 - 1).toInt = c.v 1 - 1 := by rw [sub32 (by simp only [Int32.reduceToInt]; omega) (by simp only [Int32.reduceToInt]; omega), l1]; rfl
  have ix : f_X9_requireIndex 1 2 = 0 := ix_c (by decide) (by decide)
  have im : f_X10_in ((1 : Int32).toInt64) 0 1 = 1 := in_i (by decide) (by decide)
  have gn : ((1 : Int32)).toNatClampNeg = 1 := rfl
  have n0 := W.an0
  have n1 := W.an1
  have kv := K.an
  have lv := L.an
  have e1 : (la 1 - 1).toInt = c.an - 1 := by rw [sub32 (by simp only [Int32.reduceToInt]; omega) (by simp only [Int32.reduceToInt]; omega), lv]; rfl
  have x0 : f_X9_size an ar va8 vn vr 1 p2 p3 = bnd (f_X9_requireIndex p2 an) fun k4 => if k4 = 0 then bnd (f_X9_requireIndex p3 (va8 1)) fun k6 => (if k6 = 0 then (0, f_X8_bitsOf_1 ar va8 1 p2 p3) else (k6, 0)) else (k4, 0) := by
    unfold f_X9_size
    rw [ix, bnd_p, if_pos rfl, if_neg one_z, v1]
  have y0 : f_X10_size la p ra 1 p2 p3 = if f_X10_in p2.toInt64 0 ((la 1 - 1).toInt64) = 0 then some (0, 1) else if f_X10_in p3.toInt64 0 ((p 1 - 1).toInt64) = 0 then some (0, 1) else obnd (f_X10_sizeOf p ra 1 p2.toInt64 p3.toInt64) fun z5 => some (z5, 0) := by
    unfold f_X10_size
    rw [im, if_neg one_z, grd_v (by decide) (by decide), gn]
  have no : f_X9_size an ar va8 vn vr 1 p2 p3 = (1, 0) → f_X10_size la p ra 1 p2 p3 = some (0, 1) → Al (f_L_size an ar va8 vn vr r2 1 p2 p3) (f_X10_size la p ra 1 p2 p3) := fun h1 h2 => ⟨1, r2, 0, 1, by unfold f_L_size; rw [h1]; rfl, h2, rfl, fun q => absurd q (by decide)⟩
  by_cases hr : 0 ≤ p2.toInt ∧ p2.toInt < c.an
  · have iy : f_X9_requireIndex p2 an = 0 := ix_c hr.1 (by omega)
    have my : f_X10_in p2.toInt64 0 ((la 1 - 1).toInt64) = 1 := in_i (by simp only [Int64.reduceToInt]; omega) (by rw [tl, e1]; omega)
    by_cases hs : 0 ≤ p3.toInt ∧ p3.toInt < c.v 1
    · have iz : f_X9_requireIndex p3 (va8 1) = 0 := ix_c hs.1 (by omega)
      have mz : f_X10_in p3.toInt64 0 ((p 1 - 1).toInt64) = 1 := in_i (by simp only [Int64.reduceToInt]; omega) (by rw [tl, e2]; omega)
      have ex := t_size1 W K L E hr.1 hr.2 hs.1 hs.2
      have x1 : f_X9_size an ar va8 vn vr 1 p2 p3 = (0, f_X8_bitsOf_1 ar va8 1 p2 p3) := by rw [x0, iy, bnd_p, if_pos rfl, iz, bnd_p, if_pos rfl]
      refine ⟨0, vp_updL r2 0 (f_X8_bitsOf_1 ar va8 1 p2 p3), f_X8_bitsOf_1 ar va8 1 p2 p3, 0, by unfold f_L_size; rw [x1]; rfl, ?_, rfl, fun _ => updL_eq⟩
      rw [y0, my, if_neg one_z, mz, if_neg one_z, ex, obnd_some]
    · have iz : f_X9_requireIndex p3 (va8 1) = 1 := ix_b (by rw [k1]; exact hs)
      have mz : f_X10_in p3.toInt64 0 ((p 1 - 1).toInt64) = 0 := in_o (by rw [tl, e2]; simp only [Int64.reduceToInt]; omega)
      exact no (by rw [x0, iy, bnd_p, if_pos rfl, iz, bnd_p, if_neg (by decide)]) (by rw [y0, my, if_neg one_z, mz, if_pos rfl])
  · have iy : f_X9_requireIndex p2 an = 1 := ix_b (by rw [kv]; exact hr)
    have my : f_X10_in p2.toInt64 0 ((la 1 - 1).toInt64) = 0 := in_o (by rw [tl, e1]; simp only [Int64.reduceToInt]; omega)
    exact no (by rw [x0, iy, bnd_p, if_neg (by decide)]) (by rw [y0, my, if_pos rfl])
theorem a_size {c : Cf} {mode : Int32} {th : Int32} {last : Int32} {chg : Int32} {state : Int32} {time : Int32} {pos : Int32} {su : Int32} {st : Int32} {pl : Int32} {stalls : Int32} {aband : Int32} {fin : Int32} {sw : Int32} {wasted : Int64} {qual : Int64} {as : Int32} {aa : Nat → Int32} {going : Int32} {track : Int32} {seg : Int32} {rung : Int32} {wait : Int32} {dur : Int32} {need : Int64} {got : Int64} {len : Int32} {sg : Nat → Int32} {kept : Int32} {bits : Nat → Int64} {durs : Nat → Int64} {vs : Int32} {va : Nat → Int32} {va8 : Nat → Int32} {vn : Int32} {vr : Nat → Int32} {an : Int32} {ar : Nat → Int32} {tot : Int32} {ph : Int32} {ln : Nat → Int32} {fl : Nat → Int32} {p : Nat → Int32} {la : Nat → Int32} {ra : Nat → Int32} {pm : Int32} {lm : Nat → Int32} {fm : Nat → Int32} {has : Int32} {s : Nat → Int64} (W : WfC c) (K : CC c va8 vn vr an ar tot ph ln fl) (L : CM c p la ra pm lm fm) (E : SE c mode th last chg state time pos su st pl stalls aband fin sw wasted qual as aa going track seg rung wait dur need got len sg kept bits durs vs va has s) {r2 : Nat → Int64} {p1 p2 p3 : Int32} : Al (f_L_size an ar va8 vn vr r2 p1 p2 p3) (f_X10_size la p ra p1 p2 p3) := by
  by_cases hp : 0 ≤ p1.toInt ∧ p1.toInt < 2
  · have e : p1.toInt = 0 ∨ p1.toInt = 1 := by omega
    rcases e with e | e
    · have e : p1 = 0 := eq32.mpr e
      subst e
      exact a_size0 W K L E
    · have e : p1 = 1 := eq32.mpr e
      subst e
      exact a_size1 W K L E
  · have ix : f_X9_requireIndex p1 2 = 1 := ix_b (by simp only [Int32.reduceToInt]; omega)
    have im : f_X10_in p1.toInt64 0 1 = 0 := in_o (by simp only [Int64.reduceToInt]; omega)
    have x1 : f_X9_size an ar va8 vn vr p1 p2 p3 = (1, 0) := by unfold f_X9_size; rw [ix, bnd_p, if_neg (by decide)]
    exact ⟨1, r2, 0, 1, by unfold f_L_size; rw [x1]; rfl, by unfold f_X10_size; rw [im, if_pos rfl], rfl, fun q => absurd q (by decide)⟩
