/-! what holds of a session beside WfS: kept by every millisecond -/
theorem bnd_p {α β : Type} {x : α} {k : α → β} : bnd x k = k x := congrFun (congrFun (rfl : @bnd α β = fun x k => k x) x) k
/-! the number of neighbours that differ among the first n -/
def swN (f : Nat → Int) : Nat → Int
  | 0 => 0
  | n + 1 => swN f n + if 1 ≤ n ∧ f n ≠ f (n - 1) then 1 else 0
theorem swN_b {f : Nat → Int} : ∀ n : Nat, 0 ≤ swN f n ∧ swN f n ≤ n
  | 0 => by simp [swN]
  | n + 1 => by
    have i := swN_b (f := f) n
    unfold swN
    split <;> omega
theorem swN_u {f : Nat → Int} {m : Nat} {x : Int} : ∀ n : Nat, n ≤ m → swN (updI f m x) n = swN f n
  | 0, _ => rfl
  | n + 1, h => by
    have i := swN_u (f := f) (m := m) (x := x) n (by omega)
    have e1 : updI f m x n = f n := by unfold updI; rw [if_neg (by omega)]
    have e2 : updI f m x (n - 1) = f (n - 1) := by unfold updI; rw [if_neg (by omega)]
    unfold swN
    rw [i, e1, e2]
def SW (σ : Ss) : Prop := σ.sw = swN σ.va σ.vs.toNat
def GoodS (z : Int) : Prop := z = 115 ∨ z = 45 ∨ z = 101 ∨ (48 ≤ z ∧ z ≤ 53)
def I1 (σ : Ss) : Prop := σ.su + σ.st + σ.pl ≤ σ.time ∧ (¬ σ.state = 4 → σ.su + σ.st + σ.pl = σ.time)
def I2 (σ : Ss) : Prop := σ.fin = σ.vs + σ.as
def I3 (c : Cf) (σ : Ss) : Prop := σ.going = 1 → σ.need = sizeS c σ.track (rateS c σ.track σ.rung) σ.rung σ.seg
def I5 (σ : Ss) : Prop := (σ.going = 1 → σ.track = 0 → σ.vs = 0 → σ.rung = 0) ∧ (σ.vs = 0 → ¬ (σ.going = 1 ∧ σ.track = 0) → σ.last < 0) ∧ (1 ≤ σ.vs → σ.va 0 = 0)
def I6 (σ : Ss) : Prop := σ.aband ≤ σ.wasted.toInt ∧ σ.wasted.toInt ≤ σ.aband * 575000000
def I7 (c : Cf) (σ : Ss) : Prop := c.an ≤ 0 → σ.as = 0 ∧ (σ.going = 1 → σ.track = 0)
def I8 (σ : Ss) : Prop := ∀ k : Nat, (k : Int) < σ.len → GoodS (σ.sg k)
def Inv (c : Cf) (σ : Ss) : Prop := I1 σ ∧ I2 σ ∧ I3 c σ ∧ SW σ ∧ I5 σ ∧ I6 σ ∧ I7 c σ ∧ I8 σ
theorem inv_tells {c : Cf} {σ : Ss} (W : WfC c) {T : Int} (S : WfS c T σ) (h : Inv c σ) : Inv c (tellsS c σ) := by
  obtain ⟨h1, h2, h3, h4, h5, h6, h7, h8⟩ := h
  unfold tellsS
  split
  · refine ⟨h1, h2, h3, h4, h5, h6, h7, ?_⟩
    intro k hk
    have hk : (k : Int) < σ.len + 1 := hk
    have n0 := S.n0
    show GoodS (updI σ.sg σ.len.toNat (signS c σ) k)
    unfold updI
    split
    · unfold signS GoodS
      split
      · exact Or.inl rfl
      · split
        · rename_i q
          have p2 := S.p2 q
          have d0 := W.d0
          have sn := seg_now W S (q := σ.pos - 1) (by omega) (by have := S.pv; omega)
          have vb := S.va ((σ.pos - 1) / c.v 0).toNat (by omega)
          have n1 := W.vn1
          refine Or.inr (Or.inr (Or.inr ⟨?_, ?_⟩)) <;> omega
        · split
          · exact Or.inr (Or.inl rfl)
          · exact Or.inr (Or.inr (Or.inl rfl))
    · exact h8 k (by omega)
  · exact ⟨h1, h2, h3, h4, h5, h6, h7, h8⟩
theorem inv_dl {c : Cf} {σ : Ss} {mode : Int} (h : Inv c σ) : Inv c (dlS c mode σ) := by
  unfold dlS
  split
  · exact h
  · rename_i G
    obtain ⟨h1, h2, h3, h4, ⟨h5, h5b, h5c⟩, h6, h7, h8⟩ := h
    unfold nextS
    split
    · refine ⟨h1, h2, fun _ => rfl, h4, ⟨fun _ _ hv => ?_, fun _ q => absurd ⟨rfl, rfl⟩ q, h5c⟩, h6, fun a => ⟨(h7 a).1, fun _ => rfl⟩, h8⟩
      have hv : σ.vs = 0 := hv
      have l := h5b hv (fun q => G q.1)
      show chosenS c σ mode = 0
      unfold chosenS
      rw [if_pos l]
    · split
      · rename_i q
        refine ⟨h1, h2, fun _ => rfl, h4, ⟨fun _ a => absurd (show (1 : Int) = 0 from a) (by decide), fun hv _ => ?_, h5c⟩, h6, fun a => absurd q.1 (by omega), h8⟩
        have hv : σ.vs = 0 := hv
        show (if (1 : Int) = 0 then _ else σ.last) < 0
        rw [if_neg (by decide)]
        exact h5b hv (fun q => G q.1)
      · exact ⟨h1, h2, h3, h4, ⟨h5, h5b, h5c⟩, h6, h7, h8⟩
theorem sw_recvV {σ : Ss} (v0 : 0 ≤ σ.vs) (h : SW σ) : (if 1 ≤ σ.vs ∧ σ.rung ≠ σ.va (σ.vs - 1).toNat then σ.sw + 1 else σ.sw) = swN (updI σ.va σ.vs.toNat σ.rung) (σ.vs + 1).toNat := by
  unfold SW at h
  have e : (σ.vs + 1).toNat = σ.vs.toNat + 1 := by omega
  have e1 : (σ.vs - 1).toNat = σ.vs.toNat - 1 := by omega
  have e2 : updI σ.va σ.vs.toNat σ.rung σ.vs.toNat = σ.rung := by unfold updI; rw [if_pos rfl]
  rw [e, swN, swN_u _ (Nat.le_refl _), e2, h, e1]
  by_cases g : 1 ≤ σ.vs
  · have e3 : updI σ.va σ.vs.toNat σ.rung (σ.vs.toNat - 1) = σ.va (σ.vs.toNat - 1) := by unfold updI; rw [if_neg (by omega)]
    have g2 : 1 ≤ σ.vs.toNat := by omega
    rw [e3]
    by_cases g3 : σ.rung ≠ σ.va (σ.vs.toNat - 1)
    · rw [if_pos ⟨g, g3⟩, if_pos ⟨g2, g3⟩]
    · rw [if_neg (fun q => g3 q.2), if_neg (fun q => g3 q.2)]; omega
  · rw [if_neg (fun q => g q.1), if_neg (fun q => g (by have := q.1; omega))]; omega
theorem inv_rv {c : Cf} {σ : Ss} (v0 : 0 ≤ σ.vs) (h : Inv c σ) : Inv c (rvS c σ) := by
  unfold rvS
  split
  · rename_i G
    obtain ⟨h1, h2, h3, h4, ⟨h5, h5b, h5c⟩, h6, h7, h8⟩ := h
    unfold recvS
    split
    · exact ⟨h1, h2, h3, h4, ⟨h5, h5b, h5c⟩, h6, h7, h8⟩
    · split
      · rename_i ht
        refine ⟨h1, ?_, fun a => absurd (show (0 : Int) = 1 from a) (by decide), sw_recvV v0 h4, ⟨fun a => absurd (show (0 : Int) = 1 from a) (by decide), fun a => ?_, fun _ => ?_⟩, h6, fun a => ⟨(h7 a).1, fun b => absurd (show (0 : Int) = 1 from b) (by decide)⟩, h8⟩
        · unfold I2 at *
          show σ.fin + 1 = σ.vs + 1 + σ.as
          omega
        · have a : σ.vs + 1 = 0 := a
          omega
        · show updI σ.va σ.vs.toNat σ.rung 0 = 0
          unfold updI
          split
          · exact h5 G ht (by omega)
          · exact h5c (by omega)
      · rename_i ht
        refine ⟨h1, ?_, fun a => absurd (show (0 : Int) = 1 from a) (by decide), h4, ⟨fun a => absurd (show (0 : Int) = 1 from a) (by decide), fun a _ => h5b a (fun q => ht q.2), h5c⟩, h6, fun a => absurd ((h7 a).2 G) ht, h8⟩
        unfold I2 at *
        show σ.fin + 1 = σ.vs + (σ.as + 1)
        omega
  · exact h
theorem wst_add {w : Int64} {a g : Int} (a1 : a ≤ 41000000) (h0 : a ≤ w.toInt) (h1 : w.toInt ≤ a * 575000000) (a0 : 0 ≤ a) (g0 : 0 < g) (g1 : g ≤ 575000000) : a + 1 ≤ (w + Int64.ofInt g).toInt ∧ (w + Int64.ofInt g).toInt ≤ (a + 1) * 575000000 := by
  have e : (Int64.ofInt g).toInt = g := by rw [Int64.toInt_ofInt]; exact bm64 (by omega) (by omega)
  rw [add64 (by rw [e]; omega) (by rw [e]; omega), e]
  omega
theorem inv_gives {c : Cf} {σ : Ss} {T : Int} (S : WfS c T σ) (h : Inv c σ) : Inv c (givesS c σ) := by
  unfold givesS
  split
  · rename_i q
    obtain ⟨G, ⟨m1, m2, m3, m4⟩, -⟩ := q
    unfold cutDone
    split
    · obtain ⟨h1, h2, h3, h4, ⟨h5, h5b, h5c⟩, h6, h7, h8⟩ := h
      have q1 := S.q1 G
      have e1 := S.e1 G
      have a0 := S.aband0
      have a1 := S.aband1
      have t1 := S.T1
      refine ⟨h1, h2, fun _ => rfl, h4, ⟨fun _ _ hv => ?_, fun _ q => absurd ⟨rfl, rfl⟩ q, h5c⟩, wst_add (by omega) h6.1 h6.2 a0 m3 (by omega), fun a => ⟨(h7 a).1, fun _ => rfl⟩, h8⟩
      have hv : σ.vs = 0 := hv
      have := h5 G m1 hv
      omega
    · exact h
  · exact h
theorem inv_plays {c : Cf} {th : Int} {σ : Ss} (h : Inv c σ) : Inv c (playsS c th σ) := by
  unfold playsS
  split
  · rename_i q
    obtain ⟨h1, h2, h3, h4, h5, h6, h7, h8⟩ := h
    have ns : ¬ σ.state = 4 := by
      rcases q with q | ⟨q, -⟩ | ⟨q, -⟩ <;> omega
    have e := h1.2 ns
    unfold playS
    split
    · split
      · exact ⟨⟨h1.1, fun _ => e⟩, h2, h3, h4, h5, h6, h7, h8⟩
      · exact ⟨⟨h1.1, fun _ => e⟩, h2, h3, h4, h5, h6, h7, h8⟩
    · exact ⟨⟨h1.1, fun _ => e⟩, h2, h3, h4, h5, h6, h7, h8⟩
  · exact h
theorem inv_spend {c : Cf} {σ : Ss} {T : Int} (S : WfS c T σ) (h : Inv c σ) : Inv c (spendS σ) := by
  obtain ⟨h1, h2, h3, h4, h5, h6, h7, h8⟩ := h
  refine ⟨?_, h2, h3, h4, h5, h6, h7, h8⟩
  have s0 := S.s0
  have s1 := S.s1
  unfold I1 at *
  show (if σ.state = 1 then σ.su + 1 else σ.su) + (if σ.state = 3 then σ.st + 1 else σ.st) + (if σ.state = 2 then σ.pl + 1 else σ.pl) ≤ σ.time + 1 ∧ (¬ σ.state = 4 → (if σ.state = 1 then σ.su + 1 else σ.su) + (if σ.state = 3 then σ.st + 1 else σ.st) + (if σ.state = 2 then σ.pl + 1 else σ.pl) = σ.time + 1)
  obtain ⟨a, b⟩ := h1
  by_cases q4 : σ.state = 4
  · rw [if_neg (by omega), if_neg (by omega), if_neg (by omega)]
    exact ⟨by omega, fun q => absurd q4 q⟩
  · have b := b q4
    by_cases q1 : σ.state = 1
    · rw [if_pos q1, if_neg (by omega), if_neg (by omega)]
      exact ⟨by omega, fun _ => by omega⟩
    · by_cases q2 : σ.state = 2
      · rw [if_neg q1, if_neg (by omega), if_pos q2]
        exact ⟨by omega, fun _ => by omega⟩
      · have q3 : σ.state = 3 := by omega
        rw [if_neg q1, if_pos q3, if_neg q2]
        exact ⟨by omega, fun _ => by omega⟩
theorem inv_tick {c : Cf} {σ : Ss} (W : WfC c) {T : Int} (S : WfS c T σ) (V : 1 ≤ c.vn) (mode th : Int) (hT : T + 4 ≤ 41000000) (h : Inv c σ) : Inv c (tickS c mode th σ) := by
  have s1 := tells_wf W S V
  have s2 := dl_wf W s1 V mode
  have s3 := rv_wf W s2 V (by omega)
  have s4 := gives_wf W s3 (by omega)
  have s5 := plays_wf W s4 (by omega) th
  unfold tickS
  exact inv_spend s5 (inv_plays (inv_gives s3 (inv_rv s2.v0 (inv_dl (inv_tells W S h)))))
theorem inv_iter {c : Cf} (W : WfC c) (V : 1 ≤ c.vn) (mode th : Int) : ∀ (n : Nat) (σ : Ss) (T : Int), WfS c T σ → T + 4 * n ≤ 41000000 → σ.time + n ≤ 10020000 → Inv c σ → Inv c (iterS c mode th n σ)
  | 0, σ, T, S, hT, ht, h => h
  | n + 1, σ, T, S, hT, ht, h => by
    have t := tick_wf W S V mode th (by omega) (by omega)
    unfold iterS
    exact inv_iter W V mode th n (tickS c mode th σ) (T + 4) t.1 (by omega) (by rw [t.2]; omega) (inv_tick W S V mode th (by omega) h)
/-! the length of the time line -/
def LEN (σ : Ss) : Prop := σ.len = min 300 ((σ.time + 999) / 1000)
theorem len_tick {c : Cf} {mode th : Int} {σ : Ss} (t0 : 0 ≤ σ.time) (h : LEN σ) : LEN (tickS c mode th σ) := by
  have a2 : ∀ τ : Ss, (dlS c mode τ).len = τ.len := fun τ => by unfold dlS nextS; split <;> (try split) <;> (try split) <;> rfl
  have a3 : ∀ τ : Ss, (rvS c τ).len = τ.len := fun τ => by unfold rvS recvS; split <;> (try split) <;> (try split) <;> rfl
  have a4 : ∀ τ : Ss, (givesS c τ).len = τ.len := fun τ => by unfold givesS cutDone; split <;> (try split) <;> rfl
  have a5 : ∀ τ : Ss, (playsS c th τ).len = τ.len := fun τ => by unfold playsS playS goS; split <;> (try split) <;> (try split) <;> rfl
  have e : (playsS c th (givesS c (rvS c (dlS c mode (tellsS c σ))))).time = σ.time := by rw [plays_time, gives_time, rv_time, dl_time, tells_time.1]
  unfold LEN at *
  unfold tickS
  show (playsS c th (givesS c (rvS c (dlS c mode (tellsS c σ))))).len = min 300 (((playsS c th (givesS c (rvS c (dlS c mode (tellsS c σ))))).time + 1 + 999) / 1000)
  rw [e, a5, a4, a3, a2]
  unfold tellsS
  split
  · rename_i q
    show σ.len + 1 = _
    omega
  · rename_i q
    rw [h] at q
    rw [h]
    omega
theorem len_iter {c : Cf} (W : WfC c) (V : 1 ≤ c.vn) (mode th : Int) : ∀ (n : Nat) (σ : Ss) (T : Int), WfS c T σ → T + 4 * n ≤ 41000000 → σ.time + n ≤ 10020000 → LEN σ → LEN (iterS c mode th n σ)
  | 0, σ, T, S, hT, ht, h => h
  | n + 1, σ, T, S, hT, ht, h => by
    have t := tick_wf W S V mode th (by omega) (by omega)
    unfold iterS
    exact len_iter W V mode th n (tickS c mode th σ) (T + 4) t.1 (by omega) (by rw [t.2]; omega) (len_tick S.t0 h)
theorem inv_fresh {c : Cf} : Inv c freshS ∧ LEN freshS := by
  refine ⟨⟨⟨by decide, fun _ => by decide⟩, rfl, fun a => absurd (show (0 : Int) = 1 from a) (by decide), rfl, ⟨fun a => absurd (show (0 : Int) = 1 from a) (by decide), fun _ _ => by decide, fun a => absurd (show (1 : Int) ≤ 0 from a) (by decide)⟩, ⟨by decide, by decide⟩, fun _ => ⟨rfl, fun a => absurd (show (0 : Int) = 1 from a) (by decide)⟩, fun k hk => ?_⟩, rfl⟩
  have hk : (k : Int) < 0 := hk
  omega
theorem iter_add {c : Cf} {mode th : Int} : ∀ (m n : Nat) (σ : Ss), iterS c mode th n (iterS c mode th m σ) = iterS c mode th (m + n) σ
  | 0, n, σ => by rw [Nat.zero_add]; rfl
  | m + 1, n, σ => by
    have e : m + 1 + n = (m + n) + 1 := by omega
    rw [e]
    show iterS c mode th n (iterS c mode th m (tickS c mode th σ)) = iterS c mode th (m + n) (tickS c mode th σ)
    exact iter_add m n _
