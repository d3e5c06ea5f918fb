theorem ra_pm1 {A C : Type} (x : A) (k : A → C) : pm1 x k = k x := by unfold pm1; rfl
theorem ra_pm2 {A B C : Type} (x : A × B) (k : A → B → C) : pm2 x k = k x.1 x.2 := by unfold pm2; rfl
def ra_ag (P : Int32 → Prop) (n : Int) (f g : Nat → Int32) : Prop := ∀ i : Nat, (i : Int) < n → f i = g i ∧ P (f i)
def ra_K (x : Int32) : Prop := 0 ≤ x.toInt ∧ x.toInt ≤ 99
def ra_V (x : Int32) : Prop := 0 ≤ x.toInt ∧ x.toInt ≤ 9
def ra_H (x : Int32) : Prop := 1 ≤ x.toInt ∧ x.toInt ≤ 4
theorem ra_ix {x : Int32} (h : 0 ≤ x.toInt) : ((x.toNatClampNeg : Nat) : Int) = x.toInt := Int.toNat_of_nonneg h
theorem ra_ua (f : Nat → Int32) (i : Nat) (v : Int32) : upd f i v i = v := if_pos rfl
theorem ra_un (f : Nat → Int32) {i j : Nat} (v : Int32) (h : ¬ j = i) : upd f i v j = f j := if_neg h
theorem ra_at {P : Int32 → Prop} {n : Int} {f g : Nat → Int32} (h : ra_ag P n f g) {x : Int32} (h0 : 0 ≤ x.toInt) (h1 : x.toInt < n) : f x.toNatClampNeg = g x.toNatClampNeg ∧ P (f x.toNatClampNeg) := h _ (by rw [ra_ix h0]; exact h1)
theorem ra_less {P : Int32 → Prop} {n m : Int} {f g : Nat → Int32} (h : ra_ag P n f g) (hm : m ≤ n) : ra_ag P m f g := fun i hi => h i (by omega)
theorem ra_nil {P : Int32 → Prop} {n : Int} {f g : Nat → Int32} (h : n ≤ 0) : ra_ag P n f g := fun i hi => by omega
theorem ra_upd {P : Int32 → Prop} {n : Int} {f g : Nat → Int32} (h : ra_ag P n f g) (i : Nat) {u v : Int32} (e : u = v) (p : P u) : ra_ag P n (upd f i u) (upd g i v) := by
  intro j hj
  subst e
  by_cases q : j = i
  · rw [q, ra_ua, ra_ua]
    exact ⟨rfl, p⟩
  · rw [ra_un _ _ q, ra_un _ _ q]
    exact h j hj
theorem ra_snoc {P : Int32 → Prop} {n m : Int} {f g : Nat → Int32} (h : ra_ag P n f g) {i : Nat} (hi : (i : Int) = n) (hm : m = n + 1) {u v : Int32} (e : u = v) (p : P u) : ra_ag P m (upd f i u) (upd g i v) := by
  intro j hj
  subst e
  by_cases q : j = i
  · rw [q, ra_ua, ra_ua]
    exact ⟨rfl, p⟩
  · rw [ra_un _ _ q, ra_un _ _ q]
    exact h j (by omega)
theorem ra_inc {x : Int32} (h : x.toInt ≤ 1000) (h0 : 0 ≤ x.toInt) : (x + 1).toInt = x.toInt + 1 := wk_add x.toInt 1 rfl rfl (by omega) (by omega)
theorem ra_dec {x : Int32} (h : 0 ≤ x.toInt) : (x + (-1)).toInt = x.toInt - 1 := by
  have h1 := wk_rng x
  have h2 := wk_add (x := x) (y := -1) x.toInt (-1) rfl rfl (by omega) (by omega)
  omega
theorem ra_fnlL {P : Int32 → Prop} {n : Int32} {f g : Nat → Int32} (h : ra_ag P n.toInt f g) (hn : n.toInt ≤ 8) (a : Int32) : ∀ (fu : Nat) (x : Int32), 0 ≤ x.toInt → lp_X8_firstNotLess_2 n f a fu x = lp_X12_placeOf_2 n g a fu x := by
  intro fu
  induction fu with
  | zero => intro x hx; rw [lp_X8_firstNotLess_2, lp_X12_placeOf_2]
  | succ fu ih =>
    intro x hx
    rw [lp_X8_firstNotLess_2, lp_X12_placeOf_2]
    by_cases c : n ≤ x
    · simp only [if_pos c]
    · simp only [if_neg c]
      have k := wk_nle c
      rw [(ra_at h hx (by omega)).1]
      by_cases d : a ≤ g x.toNatClampNeg
      · simp only [if_pos d]
      · simp only [if_neg d]
        exact ih (x + 1) (by rw [ra_inc (by omega) hx]; omega)
theorem ra_fnl {P : Int32 → Prop} {n : Int32} {f g : Nat → Int32} (h : ra_ag P n.toInt f g) (hn : n.toInt ≤ 8) (a : Int32) : fn_X8_firstNotLess n f a = fn_X12_placeOf n g a := by
  unfold fn_X8_firstNotLess fn_X12_placeOf
  rw [ra_fnlL h hn a 10 0 (by decide)]
theorem ra_plL {n : Int32} (g : Nat → Int32) (hn : n.toInt ≤ 8) (a : Int32) : ∀ (fu : Nat) (x : Int32), 0 ≤ x.toInt → x.toInt ≤ n.toInt → n.toInt - x.toInt < (fu : Int) → x.toInt ≤ (lp_X12_placeOf_2 n g a fu x).1.toInt ∧ (lp_X12_placeOf_2 n g a fu x).1.toInt ≤ n.toInt := by
  intro fu
  induction fu with
  | zero => intro x hx h1 h2; exfalso; omega
  | succ fu ih =>
    intro x hx h1 h2
    rw [lp_X12_placeOf_2]
    by_cases c : n ≤ x
    · simp only [if_pos c]; omega
    · simp only [if_neg c]
      have k := wk_nle c
      by_cases d : a ≤ g x.toNatClampNeg
      · simp only [if_pos d]; omega
      · simp only [if_neg d]
        have e := ra_inc (x := x) (by omega) hx
        have h9 := ih (x + 1) (by omega) (by omega) (by omega)
        omega
theorem ra_pl {n : Int32} (g : Nat → Int32) (hn : 0 ≤ n.toInt ∧ n.toInt ≤ 8) (a : Int32) : 0 ≤ (fn_X12_placeOf n g a).toInt ∧ (fn_X12_placeOf n g a).toInt ≤ n.toInt := by
  unfold fn_X12_placeOf
  rw [ra_pm2]
  exact ra_plL g hn.2 a 10 0 (by decide) hn.1 (by have h9 : (0 : Int32).toInt = 0 := rfl; omega)
theorem ra_isKey (a : Int32) : (fn_X11_isNoKey a = 0 ∧ ¬ fn_X12_isKey a = 0 ∧ 0 ≤ a.toInt ∧ a.toInt ≤ 99) ∨ (¬ fn_X11_isNoKey a = 0 ∧ fn_X12_isKey a = 0) := by
  unfold fn_X11_isNoKey fn_X12_isKey
  rw [wk_inv]
  by_cases c : a < 0
  · have k : a.toInt < 0 := wk_lt c
    refine Or.inr ⟨by rw [if_pos c]; decide, ?_⟩
    exact if_neg (fun q => by have q1 : (0 : Int) ≤ a.toInt := q.1; omega)
  · have k : ¬ a.toInt < 0 := wk_nlt c
    by_cases d : a ≤ 99
    · have k2 : a.toInt ≤ 99 := wk_le d
      refine Or.inl ⟨by rw [if_neg c, if_pos d], ?_, by omega, k2⟩
      rw [if_pos (show (0 : Int64).toInt ≤ a.toInt ∧ a.toInt ≤ (99 : Int64).toInt from ⟨by show (0 : Int) ≤ a.toInt; omega, k2⟩)]
      decide
    · have k2 : ¬ a.toInt ≤ 99 := wk_nle d
      refine Or.inr ⟨by rw [if_neg c, if_neg d]; decide, ?_⟩
      exact if_neg (fun q => by have q1 : a.toInt ≤ (99 : Int) := q.2; omega)
theorem ra_in {a : Int32} {lo hi : Int64} (l h : Int) (el : lo.toInt = l) (eh : hi.toInt = h) : (l ≤ a.toInt ∧ a.toInt ≤ h ∧ ¬ wk_in a.toInt64 lo hi = 0) ∨ (¬ (l ≤ a.toInt ∧ a.toInt ≤ h) ∧ wk_in a.toInt64 lo hi = 0) := by
  rw [wk_inv, el, eh]
  by_cases c : l ≤ a.toInt ∧ a.toInt ≤ h
  · rw [if_pos c]
    exact Or.inl ⟨c.1, c.2, by decide⟩
  · rw [if_neg c]
    exact Or.inr ⟨c, rfl⟩
theorem ra_lacks {n : Int32} (h : 1 ≤ n.toInt) : fn_X12_lacks n = 0 := by
  unfold fn_X12_lacks
  exact if_neg (fun q => by rw [q] at h; exact absurd h (by decide))
