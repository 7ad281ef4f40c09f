/-! the estimate over the latest n samples -/
def estS (b d : Nat → Int) (n : Nat) : Int := if sumN d n ≤ 0 then 0 else sumN b n / sumN d n
def SmpB (b d : Nat → Int) (n : Nat) : Prop := ∀ k, k < n → 1 ≤ b k ∧ b k ≤ 575000000 ∧ 1 ≤ d k ∧ d k ≤ 41000000
theorem smp_s {b d : Nat → Int} {n : Nat} (h : SmpB b d n) {k : Nat} (hk : k ≤ n) : ((k : Int) ≤ sumN b k ∧ sumN b k ≤ k * 575000000) ∧ (k : Int) ≤ sumN d k ∧ sumN d k ≤ k * 41000000 :=
  ⟨sum_b k (fun j hj => ⟨(h j (by omega)).1, (h j (by omega)).2.1⟩), sum_b k (fun j hj => ⟨(h j (by omega)).2.2.1, (h j (by omega)).2.2.2⟩)⟩
theorem est_b {b d : Nat → Int} {n : Nat} (h : SmpB b d n) : 0 ≤ estS b d n ∧ estS b d n ≤ 575000000 := by
  have s := smp_s h (Nat.le_refl n)
  unfold estS
  split
  · omega
  · rename_i q
    refine ⟨Int.ediv_nonneg (by omega) (by omega), ?_⟩
    have m : sumN b n ≤ 575000000 * sumN d n := by omega
    exact Int.ediv_le_of_le_mul (by omega) m
theorem c_estL {b d : Nat → Int} {r1 r2 : Nat → Int64} {n : Nat} (hn : n ≤ 10) (B : SmpB b d n) (h1 : ∀ k, k < n → (r1 k).toInt = b k) (h2 : ∀ k, k < n → (r2 k).toInt = d k) {l6 : Int32} (h6 : l6.toInt = n) :
    ∀ (m k g : Nat) (l2 l4 : Int64) (l7 : Int32), k + m = n → m < g → l7.toInt = k → l2.toInt = sumN b k → l4.toInt = sumN d k → (f_X5_rateOver_b26 r1 r2 g l2 l4 l6 l7).toInt = estS b d n
  | 0, k, g + 1, l2, l4, l7, hk, hg, h7, hl2, hl4 => by
    have ek : k = n := by omega
    subst ek
    have s := smp_s B (Nat.le_refl k)
    have eb := est_b B
    unfold f_X5_rateOver_b26
    rw [if_pos (by rw [le32]; omega)]
    by_cases h : sumN d k ≤ 0
    · rw [if_pos (by rw [le64, hl4]; exact h)]; unfold estS; rw [if_pos h]; rfl
    · rw [if_neg (by rw [le64, hl4]; exact h)]
      have e : (l2 / l4).toInt = estS b d k := by
        rw [div64 (by omega) (by omega), hl2, hl4]; unfold estS; rw [if_neg h]
      rw [ti (by omega) (by omega), e]
  | m + 1, k, g + 1, l2, l4, l7, hk, hg, h7, hl2, hl4 => by
    have s := smp_s B (k := k) (by omega)
    have bk := B k (by omega)
    have e7 : l7.toNatClampNeg = k := by rw [tn, h7]; rfl
    have e1 := h1 k (by omega)
    have e2 := h2 k (by omega)
    unfold f_X5_rateOver_b26
    rw [if_neg (by rw [le32]; omega), if_neg (by rw [le32]; simp only [Int32.reduceToInt]; omega), if_neg (by rw [le32]; simp only [Int32.reduceToInt]; omega), e7]
    unfold bnd
    refine c_estL hn B h1 h2 h6 m (k + 1) g _ _ _ (by omega) (by omega) ?_ ?_ ?_
    · rw [add32 (by simp only [Int32.reduceToInt]; omega) (by simp only [Int32.reduceToInt]; omega), h7]; rfl
    · rw [add64 (by omega) (by omega), hl2, e1]; rfl
    · rw [add64 (by omega) (by omega), hl4, e2]; rfl
theorem c_est {b d : Nat → Int} {r1 r2 : Nat → Int64} {kept w : Int32} {n : Nat} (hn : (n : Int) = min kept.toInt w.toInt) (hk : n ≤ 10) (B : SmpB b d n) (h1 : ∀ k, k < n → (r1 k).toInt = b k) (h2 : ∀ k, k < n → (r2 k).toInt = d k) :
    (f_X5_rateOver kept r1 r2 w).toInt = estS b d n := by
  unfold f_X5_rateOver
  by_cases h : kept.toInt ≤ w.toInt
  · rw [if_pos (by rw [le32]; exact h)]
    exact c_estL hk B h1 h2 (by omega) n 0 _ _ _ _ (by omega) (by simp only [Int32.reduceToInt]; omega) rfl rfl rfl
  · rw [if_neg (by rw [le32]; exact h)]
    exact c_estL hk B h1 h2 (by omega) n 0 _ _ _ _ (by omega) (by simp only [Int32.reduceToInt]; omega) rfl rfl rfl
/-! the greatest rung below n that the limit bears, or 0 -/
def bor (f : Nat → Int) (fac lim : Int) : Nat → Int
  | 0 => 0
  | n + 1 => if f n * fac ≤ lim then n else bor f fac lim n
theorem bor_b {f : Nat → Int} {fac lim : Int} : ∀ n, 0 ≤ bor f fac lim n ∧ (1 ≤ n → bor f fac lim n < n)
  | 0 => by simp [bor]
  | n + 1 => by
    have i := bor_b (f := f) (fac := fac) (lim := lim) n
    unfold bor
    split
    · omega
    · refine ⟨i.1, fun _ => ?_⟩
      by_cases h : 1 ≤ n
      · have := i.2 h; omega
      · have e : n = 0 := by omega
        subst e; simp [bor]
theorem c_borL {f : Nat → Int} {ra : Nat → Int32} {fac : Int32} {lim : Int64} {N : Nat} (hN : N ≤ 6) (hf : ∀ k, k < N → (ra k).toInt = f k ∧ 0 ≤ f k ∧ f k ≤ 50000) (f0 : 0 ≤ fac.toInt) (f1 : fac.toInt ≤ 500) :
    ∀ (m g : Nat) (l6 : Int32), l6.toInt = m → m < g → m < N → (f_X6_rungByThroughput_b40 ra g fac lim l6).toInt = bor f fac.toInt lim.toInt (m + 1)
  | 0, g + 1, l6, h6, hg, hm => by
    unfold f_X6_rungByThroughput_b40
    rw [if_pos (by rw [le32, h6]; simp)]
    unfold bor
    split <;> simp [bor]
  | m + 1, g + 1, l6, h6, hg, hm => by
    have hr := hf (m + 1) hm
    have b := mulb hr.2.1 hr.2.2 f0 f1
    have e : ((f_X2_rateOf ra l6).toInt64 * fac.toInt64).toInt = f (m + 1) * fac.toInt := by
      have e0 : (f_X2_rateOf ra l6).toInt = f (m + 1) := by rw [ro (by omega) (by omega), h6]; exact hr.1
      rw [mul64 (by rw [tl, tl, e0]; omega) (by rw [tl, tl, e0]; omega), tl, tl, e0]
    unfold f_X6_rungByThroughput_b40
    rw [if_neg (by rw [le32, h6]; simp only [Int32.reduceToInt]; omega)]
    by_cases h : f (m + 1) * fac.toInt ≤ lim.toInt
    · rw [if_neg (by rw [lt64, e]; omega), h6]; unfold bor; rw [if_pos h]
    · rw [if_pos (by rw [lt64, e]; omega)]
      unfold bor; rw [if_neg h]
      exact c_borL hN hf f0 f1 m g _ (by rw [add32 (by simp only [Int32.reduceToInt]; omega) (by simp only [Int32.reduceToInt]; omega), h6]; simp only [Int32.reduceToInt]; omega) (by omega) (by omega)
theorem c_borne {b d : Nat → Int} {r1 r2 : Nat → Int64} {kept rungs : Int32} {va ra : Nat → Int32} {n N : Nat} {f : Nat → Int} {fac : Int32} (hn : (n : Int) = min kept.toInt (va 8).toInt) (hk : n ≤ 10) (B : SmpB b d n) (h1 : ∀ k, k < n → (r1 k).toInt = b k) (h2 : ∀ k, k < n → (r2 k).toInt = d k)
    (v0 : 0 ≤ (va 9).toInt) (v1 : (va 9).toInt ≤ 100) (hN : N ≤ 6) (hN1 : 1 ≤ N) (hru : rungs.toInt = N) (hf : ∀ k, k < N → (ra k).toInt = f k ∧ 0 ≤ f k ∧ f k ≤ 50000) (f0 : 0 ≤ fac.toInt) (f1 : fac.toInt ≤ 500) :
    (f_X6_rungByThroughput kept r1 r2 va rungs ra fac).toInt = bor f fac.toInt (estS b d n * (va 9).toInt) N := by
  have eb := est_b B
  have e8 : f_X8_valueOf va 8 = va 8 := vo (by decide) (by decide)
  have e9 : f_X8_valueOf va 9 = va 9 := vo (by decide) (by decide)
  have ee := c_est (w := va 8) hn hk B h1 h2
  have bb := mulb eb.1 eb.2 v0 v1
  have em : ((f_X5_rateOver kept r1 r2 (va 8)).toInt64 * (va 9).toInt64).toInt = estS b d n * (va 9).toInt := by
    rw [mul64 (by rw [tl, tl, ee]; omega) (by rw [tl, tl, ee]; omega), tl, tl, ee]
  have er : (rungs - 1).toInt = ((N - 1 : Nat) : Int) := by rw [sub32 (by simp only [Int32.reduceToInt]; omega) (by simp only [Int32.reduceToInt]; omega), hru]; simp only [Int32.reduceToInt]; omega
  unfold f_X6_rungByThroughput bnd
  rw [e8, e9, c_borL hN hf f0 f1 (N - 1) _ _ er (by rw [er]; omega) (by omega), em]
  congr 1; omega
