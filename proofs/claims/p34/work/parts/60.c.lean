theorem c_bits1 {va ra : Nat → Int32} {p0 p1 p2 : Int32} : f_X8_bitsOf_1 ra va p0 p1 p2 = f_X8_bitsOf_0 va ra p0 p1 p2 := rfl
/-! the network's rate -/
def flowL (ln fl : Nat → Int) : Nat → Nat → Int → Int
  | 0, _, _ => 0
  | n + 1, k, left => if left < ln k then fl k else flowL ln fl n (k + 1) (left - ln k)
def flowS (c : Cf) (t : Int) : Int := if c.ph ≤ 0 then 0 else flowL c.ln c.fl c.ph.toNat 0 (t % sumN c.ln c.ph.toNat)
theorem sum_b {f : Nat → Int} {B : Int} : ∀ n : Nat, (∀ k, k < n → 1 ≤ f k ∧ f k ≤ B) → (n : Int) ≤ sumN f n ∧ sumN f n ≤ n * B
  | 0, _ => by simp [sumN]
  | n + 1, h => by
    have i := sum_b n (fun k hk => h k (by omega))
    have j := h n (by omega)
    have e : ((n + 1 : Nat) : Int) * B = n * B + B := by push_cast; rw [Int.add_mul]; omega
    unfold sumN
    omega
theorem flowL_b {ln fl : Nat → Int} : ∀ (n k : Nat) (left : Int), (∀ j, j < k + n → 0 ≤ fl j ∧ fl j ≤ 100000) → 0 ≤ flowL ln fl n k left ∧ flowL ln fl n k left ≤ 100000
  | 0, _, _, _ => by simp [flowL]
  | n + 1, k, left, h => by
    unfold flowL
    split
    · exact h k (by omega)
    · exact flowL_b n (k + 1) _ (fun j hj => h j (by omega))
theorem flowS_b {c : Cf} (W : WfC c) {t : Int} : 0 ≤ flowS c t ∧ flowS c t ≤ 100000 := by
  unfold flowS
  split
  · omega
  · exact flowL_b _ _ _ (fun j hj => W.fl0 j (by omega))
theorem c_flowL {c : Cf} (W : WfC c) {ph : Int32} {ln fl : Nat → Int32} (hp : ph.toInt = c.ph) (hl : ∀ k : Nat, (k : Int) < c.ph → (ln k).toInt = c.ln k) (hf : ∀ k : Nat, (k : Int) < c.ph → (fl k).toInt = c.fl k) :
    ∀ (n k g : Nat) (left l3 : Int32), l3.toInt = k → k + n = c.ph.toNat → n < g → 0 ≤ left.toInt → (f_X4_rateAt_b18 ph ln fl g left l3).toInt = flowL c.ln c.fl n k left.toInt
  | 0, k, g + 1, left, l3, hk, hn, hg, h0 => by
    have := W.ph0
    unfold f_X4_rateAt_b18
    rw [if_pos (by rw [le32]; omega)]; rfl
  | n + 1, k, g + 1, left, l3, hk, hn, hg, h0 => by
    have p0 := W.ph0
    have p1 := W.ph1
    have e : l3.toNatClampNeg = k := by rw [tn, hk]; rfl
    have el := hl k (by omega)
    have bl := W.ln0 k (by omega)
    have tl := Int32.toInt_lt left
    unfold f_X4_rateAt_b18 flowL
    rw [if_neg (by rw [le32]; omega), if_neg (by rw [le32]; simp only [Int32.reduceToInt]; omega), if_neg (by rw [le32]; simp only [Int32.reduceToInt]; omega), e]
    by_cases h : left.toInt < c.ln k
    · rw [if_neg (by rw [le32]; omega), if_pos h]; exact hf k (by omega)
    · have es : (left - ln k).toInt = left.toInt - c.ln k := by rw [sub32 (by omega) (by omega), el]
      have ea : (l3 + 1).toInt = ((k + 1 : Nat) : Int) := by rw [add32 (by simp only [Int32.reduceToInt]; omega) (by simp only [Int32.reduceToInt]; omega), hk]; rfl
      rw [if_pos (by rw [le32]; omega), if_neg h]
      unfold bnd
      rw [c_flowL W hp hl hf n (k + 1) g _ _ ea (by omega) (by omega) (by omega), es]
theorem c_flow {c : Cf} (W : WfC c) {tot ph : Int32} {ln fl : Nat → Int32} {t : Int32} (ht : tot.toInt = sumN c.ln c.ph.toNat) (hp : ph.toInt = c.ph) (hl : ∀ k : Nat, (k : Int) < c.ph → (ln k).toInt = c.ln k) (hf : ∀ k : Nat, (k : Int) < c.ph → (fl k).toInt = c.fl k)
    (h0 : 0 ≤ t.toInt) : (f_X4_rateAt tot ph ln fl t).toInt = flowS c t.toInt := by
  have p0 := W.ph0
  have p1 := W.ph1
  have sb := sum_b (f := c.ln) (B := 100000) c.ph.toNat (fun k hk => W.ln0 k (by omega))
  unfold f_X4_rateAt flowS
  by_cases h : c.ph ≤ 0
  · have e0 : c.ph.toNat = 0 := by omega
    rw [e0] at ht
    rw [if_neg (by rw [lt32, ht]; exact Int.lt_irrefl 0), if_pos h]; rfl
  · rw [if_pos (by rw [lt32, ht]; simp only [Int32.reduceToInt]; omega), if_neg h]
    have er : (rm32 t tot).toInt = t.toInt % sumN c.ln c.ph.toNat := by rw [rem32 h0 (by omega), ht]
    rw [c_flowL W hp hl hf c.ph.toNat 0 _ _ _ rfl (by omega) (by simp only [Int32.reduceToInt]; omega) (by rw [er]; exact Int.emod_nonneg _ (by omega)), er]
