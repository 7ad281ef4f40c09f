theorem m_copyL {pm : Int32} {fm la lm p ra : Nat → Int32} {s : Nat → Int64} {t p1 p2 : Int32} : ∀ (n k g : Nat) (r : Nat → Int64) (l3 : Int32), k + n = 760 → n < g → l3.toInt = k → (∀ j, j < k → r j = s j) → ∃ u : Nat → Int64, f_X10_forecast_b59 pm fm la lm s p ra g t r p1 p2 l3 = (obnd (f_X10_goesOn pm fm la lm p ra u p1 (p 12) (p 3)) fun (u2 : Nat → Int64) => if p2 = 0 then some ((u2 2).toInt32, t, u2) else if p2 = 1 then some ((u2 1).toInt32, t, u2) else if p2 = 2 then some ((u2 16).toInt32, t, u2) else obnd (f_X10_bufferOf p u2 0) fun (z6 : Int64) => some (z6.toInt32, t, u2)) ∧ ∀ j, j < 760 → u j = s j
  | 0, k, g + 1, r, l3, hk, hg, h3, h => by
    unfold f_X10_forecast_b59
    rw [if_pos (by rw [le32]; simp only [Int32.reduceToInt]; omega)]
    exact ⟨r, rfl, fun j hj => h j (by omega)⟩
  | n + 1, k, g + 1, r, l3, hk, hg, h3, h => by
    have e1 : (l3 + 1).toInt = ((k + 1 : Nat) : Int) := by rw [add32 (by simp only [Int32.reduceToInt]; omega) (by simp only [Int32.reduceToInt]; omega), h3]; rfl
    have en : l3.toNatClampNeg = k := by rw [tn, h3]; omega
    unfold f_X10_forecast_b59
    rw [if_neg (by rw [le32]; simp only [Int32.reduceToInt]; omega), en]
    refine m_copyL n (k + 1) g _ _ (by omega) (by omega) e1 (fun j hj => ?_)
    by_cases q : j = k
    · rw [q, updL_eq]
    · rw [updL_ne q]; exact h j (by omega)
