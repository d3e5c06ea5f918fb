theorem wk_wide (f : Nat → Int32) : 4 ≤ (fn_X12_wide f).toInt ∧ (fn_X12_wide f).toInt ≤ 5 := by
  unfold fn_X12_wide
  split <;> decide
theorem wk_rem45 {x y : Int32} (hy : 4 ≤ y.toInt ∧ y.toInt ≤ 5) (h0 : 0 ≤ x.toInt) : (y.toInt = 4 ∧ (x - x / y * y).toInt = x.toInt % 4) ∨ (y.toInt = 5 ∧ (x - x / y * y).toInt = x.toInt % 5) := by
  rcases (show y.toInt = 4 ∨ y.toInt = 5 by omega) with h | h
  · exact Or.inl ⟨h, wk_rem 4 h h0 (by decide)⟩
  · exact Or.inr ⟨h, wk_rem 5 h h0 (by decide)⟩
theorem wk_div45 {x y : Int32} (hy : 4 ≤ y.toInt ∧ y.toInt ≤ 5) (h0 : 0 ≤ x.toInt) : (y.toInt = 4 ∧ (x / y).toInt = x.toInt / 4) ∨ (y.toInt = 5 ∧ (x / y).toInt = x.toInt / 5) := by
  rcases (show y.toInt = 4 ∨ y.toInt = 5 by omega) with h | h
  · exact Or.inl ⟨h, wk_div 4 h h0 (by decide)⟩
  · exact Or.inr ⟨h, wk_div 5 h h0 (by decide)⟩
theorem wk_mul45 {x y : Int32} (hx : 4 ≤ x.toInt ∧ x.toInt ≤ 5) (hy : 0 ≤ y.toInt ∧ y.toInt < 1000) : (x.toInt = 4 ∧ (x * y).toInt = 4 * y.toInt) ∨ (x.toInt = 5 ∧ (x * y).toInt = 5 * y.toInt) := by
  rcases (show x.toInt = 4 ∨ x.toInt = 5 by omega) with h | h
  · exact Or.inl ⟨h, wk_mul 4 y.toInt h rfl (by omega) (by omega)⟩
  · exact Or.inr ⟨h, wk_mul 5 y.toInt h rfl (by omega) (by omega)⟩

