def pm1 {A C : Type} (x : A) (k : A → C) : C := k x
theorem pm1_mk {A C : Type} (a : A) (k : A → C) : pm1 a k = k a := Eq.trans (by unfold pm1; rfl) (Eq.refl (k a))
def pm2 {A B C : Type} (x : A × B) (k : A → B → C) : C := k x.1 x.2
theorem pm2_mk {A B C : Type} (a : A) (b : B) (k : A → B → C) : pm2 (a, b) k = k a b := Eq.trans (by unfold pm2; rfl) (Eq.refl (k a b))
def wk_or (A B : Prop) : Prop := A ∨ B
theorem wk_orI {A B : Prop} (h : A ∨ B) : wk_or A B := h
theorem wk_orR {A B : Prop} (h : wk_or A B) (n : ¬ A) : B := h.resolve_left n
theorem wk_inf (v lo hi : Int64) : ((wk_in v lo hi).toInt = 1 ∧ lo.toInt ≤ v.toInt ∧ v.toInt ≤ hi.toInt) ∨ ((wk_in v lo hi).toInt = 0 ∧ ¬ (lo.toInt ≤ v.toInt ∧ v.toInt ≤ hi.toInt)) := by
  by_cases h : lo.toInt ≤ v.toInt ∧ v.toInt ≤ hi.toInt
  · left; rw [wk_in, if_pos h]; exact ⟨rfl, h⟩
  · right; rw [wk_in, if_neg h]; exact ⟨rfl, h⟩
theorem wk_in_b (v lo hi : Int64) : wk_in v lo hi = 0 ∨ wk_in v lo hi = 1 := by
  unfold wk_in
  split
  · exact Or.inr rfl
  · exact Or.inl rfl
