def pm1 {A C : Type} (x : A) (k : A → C) : C := k x
theorem pm1_mk {A C : Type} (a : A) (k : A → C) : pm1 a k = k a := Eq.trans (by unfold pm1; rfl) (Eq.refl (k a))
def pm2 {A B C : Type} (x : A × B) (k : A → B → C) : C := k x.1 x.2
theorem pm2_mk {A B C : Type} (a : A) (b : B) (k : A → B → C) : pm2 (a, b) k = k a b := Eq.trans (by unfold pm2; rfl) (Eq.refl (k a b))
theorem pm2_p1 {A B C : Type} {c : Prop} {i : Decidable c} {x y : A × B} {k : A → B → C} (h : c) : pm2 (@ite (A × B) c i x y) k = pm2 x k := congrArg (fun z => pm2 z k) (if_pos h)
theorem pm2_n1 {A B C : Type} {c : Prop} {i : Decidable c} {x y : A × B} {k : A → B → C} (h : ¬ c) : pm2 (@ite (A × B) c i x y) k = pm2 y k := congrArg (fun z => pm2 z k) (if_neg h)
theorem pm2_p2 {A B C D E : Type} {c : Prop} {i : Decidable c} {x y : A × B} {k : A → B → C × D} {m : C → D → E} (h : c) : pm2 (pm2 (@ite (A × B) c i x y) k) m = pm2 (pm2 x k) m := congrArg (fun z => pm2 z m) (pm2_p1 h)
theorem pm2_n2 {A B C D E : Type} {c : Prop} {i : Decidable c} {x y : A × B} {k : A → B → C × D} {m : C → D → E} (h : ¬ c) : pm2 (pm2 (@ite (A × B) c i x y) k) m = pm2 (pm2 y k) m := congrArg (fun z => pm2 z m) (pm2_n1 h)
theorem pm2_p3 {A B C D E F G : Type} {c : Prop} {i : Decidable c} {x y : A × B} {k : A → B → C × D} {m : C → D → E × F} {n : E → F → G} (h : c) : pm2 (pm2 (pm2 (@ite (A × B) c i x y) k) m) n = pm2 (pm2 (pm2 x k) m) n := congrArg (fun z => pm2 z n) (pm2_p2 h)
theorem pm2_n3 {A B C D E F G : Type} {c : Prop} {i : Decidable c} {x y : A × B} {k : A → B → C × D} {m : C → D → E × F} {n : E → F → G} (h : ¬ c) : pm2 (pm2 (pm2 (@ite (A × B) c i x y) k) m) n = pm2 (pm2 (pm2 y k) m) n := congrArg (fun z => pm2 z n) (pm2_n2 h)
def wk_or (A B : Prop) : Prop := A ∨ B
theorem wk_orI {A B : Prop} (h : A ∨ B) : wk_or A B := h
theorem wk_orR {A B : Prop} (h : wk_or A B) (n : ¬ A) : B := h.resolve_left n
theorem wk_inf (v lo hi : Int64) : ((wk_in v lo hi).toInt = 1 ∧ lo.toInt ≤ v.toInt ∧ v.toInt ≤ hi.toInt) ∨ ((wk_in v lo hi).toInt = 0 ∧ ¬ (lo.toInt ≤ v.toInt ∧ v.toInt ≤ hi.toInt)) := by
  by_cases h : lo.toInt ≤ v.toInt ∧ v.toInt ≤ hi.toInt
  · left; rw [wk_in, if_pos h]; exact ⟨rfl, h⟩
  · right; rw [wk_in, if_neg h]; exact ⟨rfl, h⟩
theorem wk_in_b (v lo hi : Int64) : wk_in v lo hi = 0 ∨ wk_in v lo hi = 1 := by
  unfold wk_in
  split
  · exact Or.inr rfl
  · exact Or.inl rfl
theorem wk_updb (f : Nat → Int32) (i : Nat) (v : Int32) : upd (upd f i v) i (f i) = f := by
  funext j
  unfold upd
  by_cases h : j = i
  · simp [h]
  · simp [h]
theorem wk_upds (f : Nat → Int32) (i : Nat) : upd f i (f i) = f := by
  funext j
  unfold upd
  by_cases h : j = i
  · simp [h]
  · simp [h]
theorem wk_upd2 (f : Nat → Int32) (i : Nat) (u v : Int32) : upd (upd f i u) i v = upd f i v := by
  funext j
  unfold upd
  by_cases h : j = i
  · simp [h]
  · simp [h]
