/-! what a call answers, the program's and the reference's side by side: helpers -/
theorem cv {a : Int64} {b : Int32} (h : a.toInt = b.toInt) : a.toInt32 = b := by
  have h1 := Int32.toInt_lt b
  have h2 := Int32.le_toInt b
  rw [eq32, ti (by omega) (by omega), h]
theorem cvl {a : Int64} {b : Int32} (h : a.toInt = b.toInt) : b.toInt64 = a := by rw [eq64, tl, h]
theorem tn0 : (0 : Int32).toNatClampNeg = 0 := rfl
theorem tn1 : (1 : Int32).toNatClampNeg = 1 := rfl
theorem ix_c {p n : Int32} (h0 : 0 ≤ p.toInt) (h1 : p.toInt < n.toInt) : f_X9_requireIndex p n = 0 := by
  unfold f_X9_requireIndex
  rw [if_neg (by rw [lt32]; simp only [Int32.reduceToInt]; omega), if_pos (by rw [lt32]; exact h1)]
theorem ix_b {p n : Int32} (h : ¬ (0 ≤ p.toInt ∧ p.toInt < n.toInt)) : f_X9_requireIndex p n = 1 := by
  unfold f_X9_requireIndex
  by_cases g : p < 0
  · rw [if_pos g]
  · rw [if_neg g, if_neg]
    rw [lt32] at g ⊢
    simp only [Int32.reduceToInt] at g
    omega
theorem in_c {x a b : Int64} (h0 : a.toInt ≤ x.toInt) (h1 : x.toInt ≤ b.toInt) : f_X10_in x a b = 1 := by
  unfold f_X10_in
  rw [if_neg (by rw [lt64]; omega), if_neg (by rw [lt64]; omega)]
theorem in_b {x a b : Int64} (h : ¬ (a.toInt ≤ x.toInt ∧ x.toInt ≤ b.toInt)) : f_X10_in x a b = 0 := by
  unfold f_X10_in
  by_cases g : x < a
  · rw [if_pos g]
  · rw [if_neg g, if_pos]
    rw [lt64] at g ⊢
    omega
theorem in_i {p : Int32} {a b : Int64} (h0 : a.toInt ≤ p.toInt) (h1 : p.toInt ≤ b.toInt) : f_X10_in p.toInt64 a b = 1 := in_c (by rw [tl]; exact h0) (by rw [tl]; exact h1)
theorem in_o {p : Int32} {a b : Int64} (h : ¬ (a.toInt ≤ p.toInt ∧ p.toInt ≤ b.toInt)) : f_X10_in p.toInt64 a b = 0 := in_b (by rw [tl]; exact h)
def Ag (P : Option (Int32 × (Nat → Int64))) (q : Option (Int32 × Int32)) : Prop := ∃ k u b t, P = some (k, u) ∧ q = some (b, t) ∧ t = k ∧ (k = 0 → u 0 = b.toInt64)
def Al (P : Option (Int32 × (Nat → Int64))) (q : Option (Int64 × Int32)) : Prop := ∃ k u b t, P = some (k, u) ∧ q = some (b, t) ∧ t = k ∧ (k = 0 → u 0 = b)
theorem ans {k t : Int32} {z y : Int64} {A : Option Int32} (ht : t = k) (hz : k = 0 → z = y) (hA : A = some 1) : (if f_X10_thrown t = k then (if k = 0 then (if z = y then A else some 0) else A) else some 0) = some 1 := by
  rw [if_pos (show f_X10_thrown t = k from ht)]
  by_cases h : k = 0
  · rw [if_pos h, if_pos (hz h)]; exact hA
  · rw [if_neg h]; exact hA
theorem blk {P : Option (Int32 × (Nat → Int64))} {q : Option (Int32 × Int32)} {A : Int32 → (Nat → Int64) → Option Int32} (h : Ag P q) (hA : ∀ t u, A t u = some 1) :
    (obnd2 P fun (y1 : Int32) (u2 : Nat → Int64) => obnd2 q fun (y3 : Int32) (y4 : Int32) => if f_X10_thrown y4 = y1 then (if y1 = 0 then (if u2 0 = y3.toInt64 then A y4 u2 else some 0) else A y4 u2) else some 0) = some 1 := by
  obtain ⟨k, u, b, t, rfl, rfl, ht, hz⟩ := h
  exact ans ht hz (hA t u)
theorem blkL {P : Option (Int32 × (Nat → Int64))} {q : Option (Int64 × Int32)} {A : Int32 → (Nat → Int64) → Option Int32} (h : Al P q) (hA : ∀ t u, A t u = some 1) :
    (obnd2 P fun (y1 : Int32) (u2 : Nat → Int64) => obnd2 q fun (y3 : Int64) (y4 : Int32) => if f_X10_thrown y4 = y1 then (if y1 = 0 then (if u2 0 = y3 then A y4 u2 else some 0) else A y4 u2) else some 0) = some 1 := by
  obtain ⟨k, u, b, t, rfl, rfl, ht, hz⟩ := h
  exact ans ht hz (hA t u)
theorem blkT {P : Option (Int32 × (Nat → Int64))} {q : Int32 × Int32} {A : Int32 → (Nat → Int64) → Option Int32} (h : Ag P (some q)) (hA : ∀ t u, A t u = some 1) :
    (obnd2 P fun (y1 : Int32) (u2 : Nat → Int64) => bnd2 q fun (y3 : Int32) (y4 : Int32) => if f_X10_thrown y4 = y1 then (if y1 = 0 then (if u2 0 = y3.toInt64 then A y4 u2 else some 0) else A y4 u2) else some 0) = some 1 := by
  obtain ⟨k, u, b, t, rfl, hq, ht, hz⟩ := h
  have hq := Option.some.inj hq
  subst hq
  exact ans ht hz (hA t u)
theorem blkLT {P : Option (Int32 × (Nat → Int64))} {q : Int64 × Int32} {A : Int32 → (Nat → Int64) → Option Int32} (h : Al P (some q)) (hA : ∀ t u, A t u = some 1) :
    (obnd2 P fun (y1 : Int32) (u2 : Nat → Int64) => bnd2 q fun (y3 : Int64) (y4 : Int32) => if f_X10_thrown y4 = y1 then (if y1 = 0 then (if u2 0 = y3 then A y4 u2 else some 0) else A y4 u2) else some 0) = some 1 := by
  obtain ⟨k, u, b, t, rfl, hq, ht, hz⟩ := h
  have hq := Option.some.inj hq
  subst hq
  exact ans ht hz (hA t u)
/-! the number of neighbours that differ among the first n -/
def swN (f : Nat → Int) : Nat → Int
  | 0 => 0
  | n + 1 => swN f n + if 1 ≤ n ∧ f n ≠ f (n - 1) then 1 else 0
theorem swN_b {f : Nat → Int} : ∀ n : Nat, 0 ≤ swN f n ∧ swN f n ≤ n
  | 0 => by simp [swN]
  | n + 1 => by
    have i := swN_b (f := f) n
    unfold swN
    split <;> omega
theorem swN_u {f : Nat → Int} {m : Nat} {x : Int} : ∀ n : Nat, n ≤ m → swN (updI f m x) n = swN f n
  | 0, _ => rfl
  | n + 1, h => by
    have i := swN_u (f := f) (m := m) (x := x) n (by omega)
    have e1 : updI f m x n = f n := by unfold updI; rw [if_neg (by omega)]
    have e2 : updI f m x (n - 1) = f (n - 1) := by unfold updI; rw [if_neg (by omega)]
    unfold swN
    rw [i, e1, e2]
def SW (σ : Ss) : Prop := σ.sw = swN σ.va σ.vs.toNat
theorem sw_tells {c : Cf} {σ : Ss} (h : SW σ) : SW (tellsS c σ) := by unfold tellsS; split <;> exact h
theorem sw_begins {c : Cf} {σ : Ss} {a b d : Int} (h : SW σ) : SW (beginsS c σ a b d) := h
theorem sw_next {c : Cf} {σ : Ss} {mode : Int} (h : SW σ) : SW (nextS c σ mode) := by unfold nextS; split <;> (try split) <;> exact h
theorem sw_dl {c : Cf} {σ : Ss} {mode : Int} (h : SW σ) : SW (dlS c mode σ) := by unfold dlS; split; exact h; exact sw_next h
theorem sw_recv {c : Cf} {σ : Ss} (v0 : 0 ≤ σ.vs) (h : SW σ) : SW (recvS c σ) := by
  unfold recvS
  split
  · exact h
  · split
    · unfold SW at *
      show (if 1 ≤ σ.vs ∧ σ.rung ≠ σ.va (σ.vs - 1).toNat then σ.sw + 1 else σ.sw) = swN (updI σ.va σ.vs.toNat σ.rung) (σ.vs + 1).toNat
      have e : (σ.vs + 1).toNat = σ.vs.toNat + 1 := by omega
      have e1 : (σ.vs - 1).toNat = σ.vs.toNat - 1 := by omega
      have e2 : updI σ.va σ.vs.toNat σ.rung σ.vs.toNat = σ.rung := by unfold updI; rw [if_pos rfl]
      rw [e, swN, swN_u _ (Nat.le_refl _), e2, h, e1]
      by_cases g : 1 ≤ σ.vs
      · have e3 : updI σ.va σ.vs.toNat σ.rung (σ.vs.toNat - 1) = σ.va (σ.vs.toNat - 1) := by unfold updI; rw [if_neg (by omega)]
        have g2 : 1 ≤ σ.vs.toNat := by omega
        rw [e3]
        by_cases g3 : σ.rung ≠ σ.va (σ.vs.toNat - 1)
        · rw [if_pos ⟨g, g3⟩, if_pos ⟨g2, g3⟩]
        · rw [if_neg (fun q => g3 q.2), if_neg (fun q => g3 q.2)]; omega
      · rw [if_neg (fun q => g q.1), if_neg (fun q => g (by have := q.1; omega))]; omega
    · exact h
theorem sw_rv {c : Cf} {σ : Ss} (v0 : 0 ≤ σ.vs) (h : SW σ) : SW (rvS c σ) := by unfold rvS; split; exact sw_recv v0 h; exact h
theorem sw_gives {c : Cf} {σ : Ss} (h : SW σ) : SW (givesS c σ) := by unfold givesS cutDone; split <;> (try split) <;> exact h
theorem sw_plays {c : Cf} {th : Int} {σ : Ss} (h : SW σ) : SW (playsS c th σ) := by unfold playsS playS goS; split <;> (try split) <;> (try split) <;> exact h
theorem vs_tells {c : Cf} {σ : Ss} : (tellsS c σ).vs = σ.vs := by unfold tellsS; split <;> rfl
theorem vs_next {c : Cf} {σ : Ss} {mode : Int} : (nextS c σ mode).vs = σ.vs := by unfold nextS; split <;> (try split) <;> rfl
theorem vs_dl {c : Cf} {σ : Ss} {mode : Int} : (dlS c mode σ).vs = σ.vs := by unfold dlS; split; rfl; exact vs_next
theorem sw_spend {σ : Ss} (h : SW σ) : SW (spendS σ) := h
theorem sw_tick {c : Cf} {mode th : Int} {σ : Ss} (v0 : 0 ≤ σ.vs) (h : SW σ) : SW (tickS c mode th σ) := by
  have h1 : SW (rvS c (dlS c mode (tellsS c σ))) := sw_rv (by rw [vs_dl, vs_tells]; exact v0) (sw_dl (sw_tells h))
  unfold tickS
  exact sw_spend (sw_plays (sw_gives h1))
theorem sw_iter {c : Cf} (W : WfC c) (V : 1 ≤ c.vn) (mode th : Int) : ∀ (n : Nat) (σ : Ss) (T : Int), WfS c T σ → T + 4 * n ≤ 41000000 → σ.time + n ≤ 10020000 → SW σ → SW (iterS c mode th n σ)
  | 0, σ, T, S, hT, ht, h => h
  | n + 1, σ, T, S, hT, ht, h => by
    have t := tick_wf W S V mode th (by omega) (by omega)
    unfold iterS
    exact sw_iter W V mode th n (tickS c mode th σ) (T + 4) t.1 (by omega) (by rw [t.2]; omega) (sw_tick S.v0 h)
theorem stl_tick {c : Cf} {mode th : Int} {σ : Ss} : σ.stalls ≤ (tickS c mode th σ).stalls := by
  have a1 : (tellsS c σ).stalls = σ.stalls := by unfold tellsS; split <;> rfl
  have a2 : ∀ τ : Ss, (dlS c mode τ).stalls = τ.stalls := fun τ => by unfold dlS nextS; split <;> (try split) <;> (try split) <;> rfl
  have a3 : ∀ τ : Ss, (rvS c τ).stalls = τ.stalls := fun τ => by unfold rvS recvS; split <;> (try split) <;> (try split) <;> rfl
  have a4 : ∀ τ : Ss, (givesS c τ).stalls = τ.stalls := fun τ => by unfold givesS cutDone; split <;> (try split) <;> rfl
  have a5 : ∀ τ : Ss, τ.stalls ≤ (playsS c th τ).stalls := fun τ => by
    unfold playsS playS goS
    split <;> (try split) <;> (try split) <;> first | exact Int.le_refl _ | (show τ.stalls ≤ τ.stalls + 1; omega)
  have h := a5 (givesS c (rvS c (dlS c mode (tellsS c σ))))
  rw [a4, a3, a2, a1] at h
  exact h
theorem stl_iter {c : Cf} {mode th : Int} : ∀ (n : Nat) (σ : Ss), σ.stalls ≤ (iterS c mode th n σ).stalls
  | 0, _ => Int.le_refl _
  | n + 1, σ => by
    unfold iterS
    exact Int.le_trans stl_tick (stl_iter n _)
/-! the session, or none -/
def SE (c : Cf) (mode : Int32) (th : Int32) (last : Int32) (chg : Int32) (state : Int32) (time : Int32) (pos : Int32) (su : Int32) (st : Int32) (pl : Int32) (stalls : Int32) (aband : Int32) (fin : Int32) (sw : Int32) (wasted : Int64) (qual : Int64) (as : Int32) (aa : Nat → Int32) (going : Int32) (track : Int32) (seg : Int32) (rung : Int32) (wait : Int32) (dur : Int32) (need : Int64) (got : Int64) (len : Int32) (sg : Nat → Int32) (kept : Int32) (bits : Nat → Int64) (durs : Nat → Int64) (vs : Int32) (va : Nat → Int32) (has : Int32) (s : Nat → Int64) : Prop :=
  (state = 0 ∧ has = 0) ∨ (has = 1 ∧ mode.toInt = c.v 12 ∧ th.toInt = c.v 3 ∧ 1 ≤ c.vn ∧ 1 ≤ c.ph ∧ ∃ σ : Ss, WfS c (4 * σ.time) σ ∧ σ.time ≤ 10000000 ∧ SW σ ∧ RC c σ last chg state time pos su st pl stalls aband fin sw wasted qual as aa going track seg rung wait dur need got len sg kept bits durs vs va ∧ RM c σ s)
theorem ne_st {c : Cf} {σ : Ss} {T : Int} {state : Int32} (S : WfS c T σ) (h : state.toInt = σ.state) : ¬ state = 0 := fun e => by
  have b := S.s0
  rw [e] at h
  simp only [Int32.reduceToInt] at h
  omega
theorem rq_s {state : Int32} (h : ¬ state = 0) : f_X9_requireSession state = 0 := if_neg h
theorem m_estT {s : Nat → Int64} {w : Int32} (w1 : w.toInt ≤ 10) : ∀ (m g : Nat) (l2 l4 : Int64) (l6 : Int32), 0 ≤ l6.toInt → l6.toInt + m = w.toInt → m < g → ∃ z, f_X10_estimateOf_b8 s g w l2 l4 l6 = some z
  | m, 0, l2, l4, l6, h0, hm, hg => absurd hg (Nat.not_lt_zero _)
  | m, g + 1, l2, l4, l6, h0, hm, hg => by
    have fin : ∃ z, (if l4 = 0 then some 0 else grd (nz64 l4) <| some (l2 / l4)) = some z := by
      by_cases h : l4 = 0
      · rw [if_pos h]; exact ⟨_, rfl⟩
      · rw [if_neg h, grd_t (by unfold nz64; exact decide_eq_true h)]; exact ⟨_, rfl⟩
    unfold f_X10_estimateOf_b8
    by_cases h : w ≤ l6
    · rw [if_pos h]; exact fin
    · rw [if_neg h]
      by_cases h2 : s 24 ≤ l6.toInt64
      · rw [if_pos h2]; exact fin
      · rw [le32] at h
        have e5 : (25 + l6).toInt = 25 + l6.toInt := by rw [add32 (by simp only [Int32.reduceToInt]; omega) (by simp only [Int32.reduceToInt]; omega)]; rfl
        have e6 : (35 + l6).toInt = 35 + l6.toInt := by rw [add32 (by simp only [Int32.reduceToInt]; omega) (by simp only [Int32.reduceToInt]; omega)]; rfl
        have e7 : (l6 + 1).toInt = l6.toInt + 1 := by rw [add32 (by simp only [Int32.reduceToInt]; omega) (by simp only [Int32.reduceToInt]; omega)]; rfl
        rw [if_neg h2, grd_v (by omega) (by omega)]
        simp only [bnd]
        rw [grd_v (by omega) (by omega)]
        exact m_estT w1 (m - 1) g _ _ _ (by omega) (by omega) (by omega)
theorem m_est0 {s : Nat → Int64} {w : Int32} (w1 : w.toInt ≤ 10) (w0 : 0 ≤ w.toInt) : ∃ z, f_X10_estimateOf s w = some z := by
  unfold f_X10_estimateOf
  exact m_estT w1 w.toInt.toNat _ _ _ _ (by decide) (by simp only [Int32.reduceToInt]; omega) (by simp only [Int32.reduceToInt]; omega)
