theorem wk_inN {a : Int32} (h : ¬ (1 ≤ a.toInt ∧ a.toInt ≤ 126)) : wk_in a.toInt64 1 126 = 0 := if_neg (by rw [wk_64]; exact h)
theorem wk_inY {a : Int32} (h : 1 ≤ a.toInt ∧ a.toInt ≤ 126) : ¬ wk_in a.toInt64 1 126 = 0 := by
  rw [wk_in, if_pos (by rw [wk_64]; exact h)]; decide
theorem wk_letter (n : Int32) (f : Nat → Int32) (a : Int32) (h : 0 ≤ n.toInt ∧ n.toInt ≤ 44) : fn_X11_letter n f a = fn_X12_letter n f a := by
  unfold fn_X11_letter fn_X12_letter
  by_cases h1 : a < 1
  · have k1 : a.toInt < 1 := wk_lt h1
    rw [if_pos h1, if_pos (wk_inN (by omega))]
  · have k1 : ¬ a.toInt < 1 := wk_nlt h1
    rw [if_neg h1]
    by_cases h2 : a ≤ 126
    · have k2 : a.toInt ≤ 126 := wk_le h2
      rw [if_pos h2, if_neg (wk_inY (by omega))]
      by_cases h3 : n < 44
      · have k3 : n.toInt < 44 := wk_lt h3
        have h4 : ¬ n = 44 := fun q => by rw [q] at k3; exact absurd k3 (by decide)
        have h5 : ¬ (44 : Int32) ≤ n := fun q => by have k5 : 44 ≤ n.toInt := wk_le q; omega
        rw [if_pos h3, if_neg h4, fn_X6_add, if_neg h5, pm2_mk, pm2_mk]
      · have k3 : ¬ n.toInt < 44 := wk_nlt h3
        have h4 : n = 44 := Int32.toInt_inj.mp (by show n.toInt = 44; omega)
        rw [if_neg h3, if_pos h4]
    · have k2 : ¬ a.toInt ≤ 126 := wk_nle h2
      rw [if_neg h2, if_pos (wk_inN (by omega))]
theorem wk_blank (n : Int32) : fn_X11_blank n = fn_X12_blank n := by
  unfold fn_X11_blank fn_X12_blank fn_X6_clear
  rw [pm2_mk]
theorem wk_inv (z : Int32) (lo hi : Int64) : wk_in z.toInt64 lo hi = if lo.toInt ≤ z.toInt ∧ z.toInt ≤ hi.toInt then 1 else 0 := by
  unfold wk_in
  rw [wk_64]
theorem wk_i48 (z : Int32) : wk_in z.toInt64 48 57 = if (48 : Int) ≤ z.toInt ∧ z.toInt ≤ 57 then 1 else 0 := wk_inv z 48 57
theorem wk_i49 (z : Int32) : wk_in z.toInt64 49 52 = if (49 : Int) ≤ z.toInt ∧ z.toInt ≤ 52 then 1 else 0 := wk_inv z 49 52
theorem wk_asc (x y z : Int32) : x + (y - z) = x + y - z := by
  rw [Int32.sub_eq_add_neg, Int32.sub_eq_add_neg, Int32.add_assoc]
theorem wk_digit {n : Int32} {f : Nat → Int32} {p : Int32} (h0 : 0 ≤ p.toInt) (h1 : p.toInt < n.toInt) : fn_X6_digitAt n f p = f p.toNatClampNeg - 48 := by
  unfold fn_X6_digitAt
  rw [if_neg (fun q => by have k : p.toInt < 0 := wk_lt q; omega), if_neg (fun q => by have k : n.toInt ≤ p.toInt := wk_le q; omega)]
theorem wk_keyAt {n : Int32} {f : Nat → Int32} {p : Int32} (h0 : 0 ≤ p.toInt) (h1 : p.toInt + 1 < n.toInt) (h2 : n.toInt ≤ 44) : fn_X6_keyAt n f p = fn_X12_keyAt f p := by
  unfold fn_X6_keyAt fn_X12_keyAt
  have e : (p + 1).toInt = p.toInt + 1 := wk_add p.toInt 1 rfl rfl (by omega) (by omega)
  rw [wk_digit h0 (by omega), wk_digit (p := p + 1) (by omega) (by omega)]
  exact wk_asc _ _ _
theorem wk_fit4 {n : Int32} {f : Nat → Int32} {a x2 x3 : Int32} (hw : fn_X12_wide f = 4) (hn : n.toInt ≤ 44) (ha : 2 ≤ a.toInt) (han : a.toInt < n.toInt) (h2 : 0 ≤ x2.toInt) (h3 : 0 ≤ x3.toInt ∧ x3.toInt ≤ 3) (he : a.toInt = 2 + 4 * x2.toInt + x3.toInt) : fn_X6_fits n f a x2 x3 3 = fn_X12_isGood f a := by
  have na0 : ¬ a = 0 := fun q => by rw [q] at ha; exact absurd ha (by decide)
  have na1 : ¬ a = 1 := fun q => by rw [q] at ha; exact absurd ha (by decide)
  unfold fn_X12_isGood
  rw [if_neg na0, if_neg na1]
  unfold fn_X12_isKeyLetter
  rw [hw]
  obtain ⟨y, ey⟩ : ∃ y : Int32, y = a - 2 := ⟨_, rfl⟩
  have e2 : y.toInt = a.toInt - 2 := by rw [ey]; exact wk_sub a.toInt 2 rfl rfl (by omega) (by omega)
  rw [← ey]
  have eP : y - y / 4 * 4 = x3 := by
    apply Int32.toInt_inj.mp
    rw [wk_rem (x := y) (y := 4) 4 rfl (by omega) (by decide)]
    omega
  rw [eP]
  unfold fn_X6_fits
  obtain ⟨z, ez⟩ : ∃ z : Int32, z = f a.toNatClampNeg := ⟨_, rfl⟩
  rw [← ez]
  by_cases c1 : x3 = 3
  · have k1 : x3.toInt = 3 := wk_eq c1
    have d1 : ¬ x3 = 1 := fun q => by have k : x3.toInt = 1 := wk_eq q; omega
    rw [if_pos c1, if_neg d1, if_pos (show x3 = 4 - 1 from c1.trans (by decide))]
    by_cases c2 : z = 44
    · rw [if_pos c2, if_pos c2]
      have e8 : ((8 : Int32) * 4 - 1).toInt = 31 := by decide
      by_cases c3 : (7 : Int32) ≤ x2
      · have k3 : 7 ≤ x2.toInt := wk_le c3
        rw [if_pos c3, if_pos (show ((8 : Int32) * 4 - 1) ≤ y from Int32.le_iff_toInt_le.mpr (by rw [e8]; omega))]
      · have k3 : ¬ 7 ≤ x2.toInt := wk_nle c3
        rw [if_neg c3, if_neg (show ¬ ((8 : Int32) * 4 - 1) ≤ y from fun q => by have k := Int32.le_iff_toInt_le.mp q; rw [e8] at k; omega)]
    · rw [if_neg c2, if_neg c2]
  · have k1 : ¬ x3.toInt = 3 := wk_neq c1
    have d1 : ¬ x3 = 4 - 1 := fun q => c1 (q.trans (by decide))
    rw [if_neg c1]
    by_cases c2 : x3 = 1
    · have k2 : x3.toInt = 1 := wk_eq c2
      rw [if_pos c2, if_pos c2]
      by_cases c3 : z < 48
      · have k3 : z.toInt < 48 := wk_lt c3
        rw [if_pos c3, if_pos (show wk_in z.toInt64 48 57 = 0 from by rw [wk_i48]; exact if_neg (by omega))]
      · have k3 : ¬ z.toInt < 48 := wk_nlt c3
        rw [if_neg c3]
        by_cases c4 : z ≤ 57
        · have k4 : z.toInt ≤ 57 := wk_le c4
          have i1 : ¬ wk_in z.toInt64 48 57 = 0 := by rw [wk_i48, if_pos (by omega)]; decide
          rw [if_pos c4, if_neg i1]
          by_cases c5 : x2 = 0
          · have k5 : x2.toInt = 0 := wk_eq c5
            rw [if_pos c5, if_pos (show y < 4 from Int32.lt_iff_toInt_lt.mpr (by show y.toInt < 4; omega))]
          · have k5 : ¬ x2.toInt = 0 := wk_neq c5
            rw [if_neg c5, if_neg (show ¬ y < 4 from fun q => by have k : y.toInt < 4 := wk_lt q; omega)]
            have ex : (a - 3) - 2 = (a - 1) - 4 := by
              have h4 : ∀ p q r : Int32, p - q - r = p - (q + r) := fun p q r => by rw [Int32.sub_eq_add_neg, Int32.sub_eq_add_neg, Int32.sub_eq_add_neg, Int32.neg_add, Int32.sub_eq_add_neg, Int32.add_assoc]
              rw [h4, h4]
              rfl
            obtain ⟨u, eu⟩ : ∃ u : Int32, u = a - 1 := ⟨_, rfl⟩
            have ku : u.toInt = a.toInt - 1 := by rw [eu]; exact wk_sub a.toInt 1 rfl rfl (by omega) (by omega)
            obtain ⟨v, ev⟩ : ∃ v : Int32, v = u - 4 := ⟨_, rfl⟩
            have kv : v.toInt = u.toInt - 4 := by rw [ev]; exact wk_sub u.toInt 4 rfl rfl (by omega) (by omega)
            rw [ex, ← eu, ← ev, wk_keyAt (p := u) (by omega) (by omega) hn, wk_keyAt (p := v) (by omega) (by omega) hn]
        · have k4 : ¬ z.toInt ≤ 57 := wk_nle c4
          rw [if_neg c4, if_pos (show wk_in z.toInt64 48 57 = 0 from by rw [wk_i48]; exact if_neg (by omega))]
    · have k2 : ¬ x3.toInt = 1 := wk_neq c2
      rw [if_neg c2, if_neg c2, if_neg d1]
      by_cases c5 : x3 = 3
      · rw [if_pos c5, if_pos c5, wk_i49]
        by_cases c3 : z < 48
        · have k3 : z.toInt < 48 := wk_lt c3
          rw [if_pos c3, if_neg (show ¬ ((49 : Int) ≤ z.toInt ∧ z.toInt ≤ 52) by omega)]
        · have k3 : ¬ z.toInt < 48 := wk_nlt c3
          rw [if_neg c3]
          by_cases c4 : z ≤ 57
          · have k4 : z.toInt ≤ 57 := wk_le c4
            rw [if_pos c4]
            by_cases c6 : z < 49
            · have k6 : z.toInt < 49 := wk_lt c6
              rw [if_pos c6, if_neg (show ¬ ((49 : Int) ≤ z.toInt ∧ z.toInt ≤ 52) by omega)]
            · have k6 : ¬ z.toInt < 49 := wk_nlt c6
              rw [if_neg c6]
              by_cases c7 : (52 : Int32) < z
              · have k7 : 52 < z.toInt := wk_lt c7
                rw [if_pos c7, if_neg (show ¬ ((49 : Int) ≤ z.toInt ∧ z.toInt ≤ 52) by omega)]
              · have k7 : ¬ 52 < z.toInt := wk_nlt c7
                rw [if_neg c7, if_pos (show ((49 : Int) ≤ z.toInt ∧ z.toInt ≤ 52) by omega)]
          · have k4 : ¬ z.toInt ≤ 57 := wk_nle c4
            rw [if_neg c4, if_neg (show ¬ ((49 : Int) ≤ z.toInt ∧ z.toInt ≤ 52) by omega)]
      · rw [if_neg c5, if_neg c5, wk_i48]
        by_cases c3 : z < 48
        · have k3 : z.toInt < 48 := wk_lt c3
          rw [if_pos c3, if_neg (show ¬ ((48 : Int) ≤ z.toInt ∧ z.toInt ≤ 57) by omega)]
        · have k3 : ¬ z.toInt < 48 := wk_nlt c3
          rw [if_neg c3]
          by_cases c4 : z ≤ 57
          · have k4 : z.toInt ≤ 57 := wk_le c4
            rw [if_pos c4, if_pos (show ((48 : Int) ≤ z.toInt ∧ z.toInt ≤ 57) by omega)]
          · have k4 : ¬ z.toInt ≤ 57 := wk_nle c4
            rw [if_neg c4, if_neg (show ¬ ((48 : Int) ≤ z.toInt ∧ z.toInt ≤ 57) by omega)]
theorem wk_lp4 {n : Int32} {f : Nat → Int32} (hw : fn_X12_wide f = 4) (hs : fn_X6_signsOfKey n f = 3) (hn : 0 ≤ n.toInt ∧ n.toInt ≤ 44) : ∀ (fu fv : Nat) (x2 x3 a : Int32), (44 - a.toInt < (fu : Int)) → (44 - a.toInt < (fv : Int)) → (2 ≤ a.toInt ∧ a.toInt ≤ 44) → (0 ≤ x2.toInt ∧ x2.toInt ≤ 7) → (0 ≤ x3.toInt ∧ x3.toInt ≤ 3) → a.toInt = 2 + 4 * x2.toInt + x3.toInt →
    n.toInt ≤ a.toInt ∨ (lp_X12_faultOf_2 n f fv a = (lp_X6_firstFault_40 n f fu x2 x3 a, ()) ∧ (lp_X6_firstFault_40 n f fu x2 x3 a).toInt ≤ 33) := by
  intro fu
  induction fu with
  | zero => intro fv x2 x3 a h1 h2 h3; omega
  | succ fu ih =>
    intro fv x2 x3 a h1 h2 h3 h4 h5 h6
    by_cases g : n.toInt ≤ a.toInt
    · exact Or.inl g
    · refine Or.inr ?_
      obtain ⟨fw, rfl⟩ : ∃ fw, fv = fw + 1 := ⟨fv - 1, by omega⟩
      have gn : ¬ n ≤ a := fun q => g (wk_le q)
      have hfit := wk_fit4 (n := n) (f := f) (a := a) (x2 := x2) (x3 := x3) hw hn.2 h3.1 (by omega) h4.1 h5 h6
      rw [lp_X12_faultOf_2, lp_X6_firstFault_40, if_neg gn, if_neg gn, hs, hfit]
      by_cases q : fn_X12_isGood f a = 0
      · rw [if_pos q, if_pos q]
        exact ⟨rfl, by omega⟩
      · rw [if_neg q, if_neg q]
        have e1 : (a + 1).toInt = a.toInt + 1 := wk_add a.toInt 1 rfl rfl (by omega) (by omega)
        have e3 : (x3 + 1).toInt = x3.toInt + 1 := wk_add x3.toInt 1 rfl rfl (by omega) (by omega)
        have e2 : (x2 + 1).toInt = x2.toInt + 1 := wk_add x2.toInt 1 rfl rfl (by omega) (by omega)
        have stop : ∀ r : Int32, n.toInt ≤ (a + 1).toInt → ∀ (b2 b3 : Int32), lp_X12_faultOf_2 n f fw (a + 1) = (lp_X6_firstFault_40 n f fu b2 b3 (a + 1), ()) ∧ (lp_X6_firstFault_40 n f fu b2 b3 (a + 1)).toInt ≤ 33 := by
          intro r hle b2 b3
          have hle2 : n ≤ a + 1 := Int32.le_iff_toInt_le.mpr hle
          have hna : a + 1 = n := Int32.toInt_inj.mp (by omega)
          obtain ⟨fw2, rfl⟩ : ∃ fw2, fw = fw2 + 1 := ⟨fw - 1, by omega⟩
          obtain ⟨fu2, rfl⟩ : ∃ fu2, fu = fu2 + 1 := ⟨fu - 1, by omega⟩
          rw [lp_X12_faultOf_2, lp_X6_firstFault_40, if_pos hle2, if_pos hle2, hna]
          refine ⟨rfl, ?_⟩
          by_cases g7 : x2.toInt = 7 ∧ x3.toInt = 3
          · exfalso
            apply q
            rw [← hfit, fn_X6_fits, if_pos (Int32.toInt_inj.mp (by show x3.toInt = 3; omega))]
            by_cases q44 : f a.toNatClampNeg = 44
            · rw [if_pos q44, if_pos (Int32.le_iff_toInt_le.mpr (by show (7 : Int) ≤ x2.toInt; omega))]
            · rw [if_neg q44]
          · omega
        by_cases c3 : x3 + 1 ≤ 3
        · have k3 : (x3 + 1).toInt ≤ 3 := wk_le c3
          rw [if_pos c3]
          rcases ih fw x2 (x3 + 1) (a + 1) (by omega) (by omega) (by omega) h4 (by omega) (by omega) with hh | hh
          · exact stop n hh _ _
          · exact hh
        · have k3 : ¬ (x3 + 1).toInt ≤ 3 := wk_nle c3
          rw [if_neg c3]
          by_cases g7 : x2.toInt = 7
          · exfalso
            apply q
            rw [← hfit, fn_X6_fits, if_pos (Int32.toInt_inj.mp (by show x3.toInt = 3; omega))]
            by_cases q44 : f a.toNatClampNeg = 44
            · rw [if_pos q44, if_pos (Int32.le_iff_toInt_le.mpr (by show (7 : Int) ≤ x2.toInt; omega))]
            · rw [if_neg q44]
          · rcases ih fw (x2 + 1) 0 (a + 1) (by omega) (by omega) (by omega) (by omega) (by decide) (by have h9 : (0 : Int32).toInt = 0 := rfl; omega) with hh | hh
            · exact stop n hh _ _
            · exact hh
theorem wk_kt4 {n : Int32} {f : Nat → Int32} (hs : fn_X6_signsOfKey n f = 3) (hn : 0 ≤ n.toInt ∧ n.toInt ≤ 44) : ∀ (fu : Nat) (x : Int32), (9 - x.toInt < (fu : Int)) → (2 ≤ x.toInt ∧ x.toInt ≤ 9) →
    ((lp_X6_keysTold_25 n f fu x).toInt = -1 ∧ ∀ k : Int, x.toInt ≤ k → k ≤ 8 → ¬ n.toInt = 1 + 4 * k) ∨ (∃ k : Int, x.toInt ≤ k ∧ k ≤ 8 ∧ (lp_X6_keysTold_25 n f fu x).toInt = k ∧ n.toInt = 1 + 4 * k) := by
  intro fu
  induction fu with
  | zero => intro x h1 h2; omega
  | succ fu ih =>
    intro x h1 h2
    rw [lp_X6_keysTold_25]
    by_cases c1 : (8 : Int32) < x
    · have k1 : 8 < x.toInt := wk_lt c1
      rw [if_pos c1]
      exact Or.inl ⟨by decide, fun k h3 h4 => by omega⟩
    · have k1 : ¬ 8 < x.toInt := wk_nlt c1
      rw [if_neg c1, hs]
      have e1 : ((3 : Int32) + 1).toInt = 4 := by decide
      have e2 : (x * ((3 : Int32) + 1)).toInt = x.toInt * 4 := wk_mul x.toInt 4 rfl e1 (by omega) (by omega)
      have e3 : (1 + x * ((3 : Int32) + 1)).toInt = 1 + x.toInt * 4 := wk_add 1 (x.toInt * 4) rfl e2 (by omega) (by omega)
      by_cases c2 : n = 1 + x * ((3 : Int32) + 1)
      · have k2 : n.toInt = 1 + x.toInt * 4 := (wk_eq c2).trans e3
        rw [if_pos c2]
        exact Or.inr ⟨x.toInt, by omega, by omega, rfl, by omega⟩
      · have k2 : ¬ n.toInt = 1 + x.toInt * 4 := fun q => c2 (Int32.toInt_inj.mp (q.trans e3.symm))
        rw [if_neg c2]
        have ex : (x + 1).toInt = x.toInt + 1 := wk_add x.toInt 1 rfl rfl (by omega) (by omega)
        rcases ih (x + 1) (by omega) (by omega) with ⟨h3, h4⟩ | ⟨k, h3, h4, h5, h6⟩
        · refine Or.inl ⟨h3, fun k h5 h6 h7 => ?_⟩
          by_cases hk : k = x.toInt
          · subst hk; omega
          · exact h4 k (by omega) h6 h7
        · exact Or.inr ⟨k, by omega, h4, h5, h6⟩
theorem wk_fit5 {n : Int32} {f : Nat → Int32} {a x2 x3 : Int32} (hw : fn_X12_wide f = 5) (hn : n.toInt ≤ 44) (ha : 2 ≤ a.toInt) (han : a.toInt < n.toInt) (h2 : 0 ≤ x2.toInt) (h3 : 0 ≤ x3.toInt ∧ x3.toInt ≤ 4) (he : a.toInt = 2 + 5 * x2.toInt + x3.toInt) : fn_X6_fits n f a x2 x3 4 = fn_X12_isGood f a := by
  have na0 : ¬ a = 0 := fun q => by rw [q] at ha; exact absurd ha (by decide)
  have na1 : ¬ a = 1 := fun q => by rw [q] at ha; exact absurd ha (by decide)
  unfold fn_X12_isGood
  rw [if_neg na0, if_neg na1]
  unfold fn_X12_isKeyLetter
  rw [hw]
  obtain ⟨y, ey⟩ : ∃ y : Int32, y = a - 2 := ⟨_, rfl⟩
  have e2 : y.toInt = a.toInt - 2 := by rw [ey]; exact wk_sub a.toInt 2 rfl rfl (by omega) (by omega)
  rw [← ey]
  have eP : y - y / 5 * 5 = x3 := by
    apply Int32.toInt_inj.mp
    rw [wk_rem (x := y) (y := 5) 5 rfl (by omega) (by decide)]
    omega
  rw [eP]
  unfold fn_X6_fits
  obtain ⟨z, ez⟩ : ∃ z : Int32, z = f a.toNatClampNeg := ⟨_, rfl⟩
  rw [← ez]
  by_cases c1 : x3 = 4
  · have k1 : x3.toInt = 4 := wk_eq c1
    have d1 : ¬ x3 = 1 := fun q => by have k : x3.toInt = 1 := wk_eq q; omega
    rw [if_pos c1, if_neg d1, if_pos (show x3 = 5 - 1 from c1.trans (by decide))]
    by_cases c2 : z = 44
    · rw [if_pos c2, if_pos c2]
      have e8 : ((8 : Int32) * 5 - 1).toInt = 39 := by decide
      by_cases c3 : (7 : Int32) ≤ x2
      · have k3 : 7 ≤ x2.toInt := wk_le c3
        rw [if_pos c3, if_pos (show ((8 : Int32) * 5 - 1) ≤ y from Int32.le_iff_toInt_le.mpr (by rw [e8]; omega))]
      · have k3 : ¬ 7 ≤ x2.toInt := wk_nle c3
        rw [if_neg c3, if_neg (show ¬ ((8 : Int32) * 5 - 1) ≤ y from fun q => by have k := Int32.le_iff_toInt_le.mp q; rw [e8] at k; omega)]
    · rw [if_neg c2, if_neg c2]
  · have k1 : ¬ x3.toInt = 4 := wk_neq c1
    have d1 : ¬ x3 = 5 - 1 := fun q => c1 (q.trans (by decide))
    rw [if_neg c1]
    by_cases c2 : x3 = 1
    · have k2 : x3.toInt = 1 := wk_eq c2
      rw [if_pos c2, if_pos c2]
      by_cases c3 : z < 48
      · have k3 : z.toInt < 48 := wk_lt c3
        rw [if_pos c3, if_pos (show wk_in z.toInt64 48 57 = 0 from by rw [wk_i48]; exact if_neg (by omega))]
      · have k3 : ¬ z.toInt < 48 := wk_nlt c3
        rw [if_neg c3]
        by_cases c4 : z ≤ 57
        · have k4 : z.toInt ≤ 57 := wk_le c4
          have i1 : ¬ wk_in z.toInt64 48 57 = 0 := by rw [wk_i48, if_pos (by omega)]; decide
          rw [if_pos c4, if_neg i1]
          by_cases c5 : x2 = 0
          · have k5 : x2.toInt = 0 := wk_eq c5
            rw [if_pos c5, if_pos (show y < 5 from Int32.lt_iff_toInt_lt.mpr (by show y.toInt < 5; omega))]
          · have k5 : ¬ x2.toInt = 0 := wk_neq c5
            rw [if_neg c5, if_neg (show ¬ y < 5 from fun q => by have k : y.toInt < 5 := wk_lt q; omega)]
            have ex : (a - 4) - 2 = (a - 1) - 5 := by
              have h4 : ∀ p q r : Int32, p - q - r = p - (q + r) := fun p q r => by rw [Int32.sub_eq_add_neg, Int32.sub_eq_add_neg, Int32.sub_eq_add_neg, Int32.neg_add, Int32.sub_eq_add_neg, Int32.add_assoc]
              rw [h4, h4]
              rfl
            obtain ⟨u, eu⟩ : ∃ u : Int32, u = a - 1 := ⟨_, rfl⟩
            have ku : u.toInt = a.toInt - 1 := by rw [eu]; exact wk_sub a.toInt 1 rfl rfl (by omega) (by omega)
            obtain ⟨v, ev⟩ : ∃ v : Int32, v = u - 5 := ⟨_, rfl⟩
            have kv : v.toInt = u.toInt - 5 := by rw [ev]; exact wk_sub u.toInt 5 rfl rfl (by omega) (by omega)
            rw [ex, ← eu, ← ev, wk_keyAt (p := u) (by omega) (by omega) hn, wk_keyAt (p := v) (by omega) (by omega) hn]
        · have k4 : ¬ z.toInt ≤ 57 := wk_nle c4
          rw [if_neg c4, if_pos (show wk_in z.toInt64 48 57 = 0 from by rw [wk_i48]; exact if_neg (by omega))]
    · have k2 : ¬ x3.toInt = 1 := wk_neq c2
      rw [if_neg c2, if_neg c2, if_neg d1]
      by_cases c5 : x3 = 3
      · rw [if_pos c5, if_pos c5, wk_i49]
        by_cases c3 : z < 48
        · have k3 : z.toInt < 48 := wk_lt c3
          rw [if_pos c3, if_neg (show ¬ ((49 : Int) ≤ z.toInt ∧ z.toInt ≤ 52) by omega)]
        · have k3 : ¬ z.toInt < 48 := wk_nlt c3
          rw [if_neg c3]
          by_cases c4 : z ≤ 57
          · have k4 : z.toInt ≤ 57 := wk_le c4
            rw [if_pos c4]
            by_cases c6 : z < 49
            · have k6 : z.toInt < 49 := wk_lt c6
              rw [if_pos c6, if_neg (show ¬ ((49 : Int) ≤ z.toInt ∧ z.toInt ≤ 52) by omega)]
            · have k6 : ¬ z.toInt < 49 := wk_nlt c6
              rw [if_neg c6]
              by_cases c7 : (52 : Int32) < z
              · have k7 : 52 < z.toInt := wk_lt c7
                rw [if_pos c7, if_neg (show ¬ ((49 : Int) ≤ z.toInt ∧ z.toInt ≤ 52) by omega)]
              · have k7 : ¬ 52 < z.toInt := wk_nlt c7
                rw [if_neg c7, if_pos (show ((49 : Int) ≤ z.toInt ∧ z.toInt ≤ 52) by omega)]
          · have k4 : ¬ z.toInt ≤ 57 := wk_nle c4
            rw [if_neg c4, if_neg (show ¬ ((49 : Int) ≤ z.toInt ∧ z.toInt ≤ 52) by omega)]
      · rw [if_neg c5, if_neg c5, wk_i48]
        by_cases c3 : z < 48
        · have k3 : z.toInt < 48 := wk_lt c3
          rw [if_pos c3, if_neg (show ¬ ((48 : Int) ≤ z.toInt ∧ z.toInt ≤ 57) by omega)]
        · have k3 : ¬ z.toInt < 48 := wk_nlt c3
          rw [if_neg c3]
          by_cases c4 : z ≤ 57
          · have k4 : z.toInt ≤ 57 := wk_le c4
            rw [if_pos c4, if_pos (show ((48 : Int) ≤ z.toInt ∧ z.toInt ≤ 57) by omega)]
          · have k4 : ¬ z.toInt ≤ 57 := wk_nle c4
            rw [if_neg c4, if_neg (show ¬ ((48 : Int) ≤ z.toInt ∧ z.toInt ≤ 57) by omega)]
theorem wk_lp5 {n : Int32} {f : Nat → Int32} (hw : fn_X12_wide f = 5) (hs : fn_X6_signsOfKey n f = 4) (hn : 0 ≤ n.toInt ∧ n.toInt ≤ 44) : ∀ (fu fv : Nat) (x2 x3 a : Int32), (44 - a.toInt < (fu : Int)) → (44 - a.toInt < (fv : Int)) → (2 ≤ a.toInt ∧ a.toInt ≤ 44) → (0 ≤ x2.toInt ∧ x2.toInt ≤ 7) → (0 ≤ x3.toInt ∧ x3.toInt ≤ 4) → a.toInt = 2 + 5 * x2.toInt + x3.toInt →
    n.toInt ≤ a.toInt ∨ (lp_X12_faultOf_2 n f fv a = (lp_X6_firstFault_40 n f fu x2 x3 a, ()) ∧ (lp_X6_firstFault_40 n f fu x2 x3 a).toInt ≤ 41) := by
  intro fu
  induction fu with
  | zero => intro fv x2 x3 a h1 h2 h3; omega
  | succ fu ih =>
    intro fv x2 x3 a h1 h2 h3 h4 h5 h6
    by_cases g : n.toInt ≤ a.toInt
    · exact Or.inl g
    · refine Or.inr ?_
      obtain ⟨fw, rfl⟩ : ∃ fw, fv = fw + 1 := ⟨fv - 1, by omega⟩
      have gn : ¬ n ≤ a := fun q => g (wk_le q)
      have hfit := wk_fit5 (n := n) (f := f) (a := a) (x2 := x2) (x3 := x3) hw hn.2 h3.1 (by omega) h4.1 h5 h6
      rw [lp_X12_faultOf_2, lp_X6_firstFault_40, if_neg gn, if_neg gn, hs, hfit]
      by_cases q : fn_X12_isGood f a = 0
      · rw [if_pos q, if_pos q]
        exact ⟨rfl, by omega⟩
      · rw [if_neg q, if_neg q]
        have e1 : (a + 1).toInt = a.toInt + 1 := wk_add a.toInt 1 rfl rfl (by omega) (by omega)
        have e3 : (x3 + 1).toInt = x3.toInt + 1 := wk_add x3.toInt 1 rfl rfl (by omega) (by omega)
        have e2 : (x2 + 1).toInt = x2.toInt + 1 := wk_add x2.toInt 1 rfl rfl (by omega) (by omega)
        have stop : ∀ r : Int32, n.toInt ≤ (a + 1).toInt → ∀ (b2 b3 : Int32), lp_X12_faultOf_2 n f fw (a + 1) = (lp_X6_firstFault_40 n f fu b2 b3 (a + 1), ()) ∧ (lp_X6_firstFault_40 n f fu b2 b3 (a + 1)).toInt ≤ 41 := by
          intro r hle b2 b3
          have hle2 : n ≤ a + 1 := Int32.le_iff_toInt_le.mpr hle
          have hna : a + 1 = n := Int32.toInt_inj.mp (by omega)
          obtain ⟨fw2, rfl⟩ : ∃ fw2, fw = fw2 + 1 := ⟨fw - 1, by omega⟩
          obtain ⟨fu2, rfl⟩ : ∃ fu2, fu = fu2 + 1 := ⟨fu - 1, by omega⟩
          rw [lp_X12_faultOf_2, lp_X6_firstFault_40, if_pos hle2, if_pos hle2, hna]
          refine ⟨rfl, ?_⟩
          by_cases g7 : x2.toInt = 7 ∧ x3.toInt = 4
          · exfalso
            apply q
            rw [← hfit, fn_X6_fits, if_pos (Int32.toInt_inj.mp (by show x3.toInt = 4; omega))]
            by_cases q44 : f a.toNatClampNeg = 44
            · rw [if_pos q44, if_pos (Int32.le_iff_toInt_le.mpr (by show (7 : Int) ≤ x2.toInt; omega))]
            · rw [if_neg q44]
          · omega
        by_cases c3 : x3 + 1 ≤ 4
        · have k3 : (x3 + 1).toInt ≤ 4 := wk_le c3
          rw [if_pos c3]
          rcases ih fw x2 (x3 + 1) (a + 1) (by omega) (by omega) (by omega) h4 (by omega) (by omega) with hh | hh
          · exact stop n hh _ _
          · exact hh
        · have k3 : ¬ (x3 + 1).toInt ≤ 4 := wk_nle c3
          rw [if_neg c3]
          by_cases g7 : x2.toInt = 7
          · exfalso
            apply q
            rw [← hfit, fn_X6_fits, if_pos (Int32.toInt_inj.mp (by show x3.toInt = 4; omega))]
            by_cases q44 : f a.toNatClampNeg = 44
            · rw [if_pos q44, if_pos (Int32.le_iff_toInt_le.mpr (by show (7 : Int) ≤ x2.toInt; omega))]
            · rw [if_neg q44]
          · rcases ih fw (x2 + 1) 0 (a + 1) (by omega) (by omega) (by omega) (by omega) (by decide) (by have h9 : (0 : Int32).toInt = 0 := rfl; omega) with hh | hh
            · exact stop n hh _ _
            · exact hh
theorem wk_kt5 {n : Int32} {f : Nat → Int32} (hs : fn_X6_signsOfKey n f = 4) (hn : 0 ≤ n.toInt ∧ n.toInt ≤ 44) : ∀ (fu : Nat) (x : Int32), (9 - x.toInt < (fu : Int)) → (2 ≤ x.toInt ∧ x.toInt ≤ 9) →
    ((lp_X6_keysTold_25 n f fu x).toInt = -1 ∧ ∀ k : Int, x.toInt ≤ k → k ≤ 8 → ¬ n.toInt = 1 + 5 * k) ∨ (∃ k : Int, x.toInt ≤ k ∧ k ≤ 8 ∧ (lp_X6_keysTold_25 n f fu x).toInt = k ∧ n.toInt = 1 + 5 * k) := by
  intro fu
  induction fu with
  | zero => intro x h1 h2; omega
  | succ fu ih =>
    intro x h1 h2
    rw [lp_X6_keysTold_25]
    by_cases c1 : (8 : Int32) < x
    · have k1 : 8 < x.toInt := wk_lt c1
      rw [if_pos c1]
      exact Or.inl ⟨by decide, fun k h3 h4 => by omega⟩
    · have k1 : ¬ 8 < x.toInt := wk_nlt c1
      rw [if_neg c1, hs]
      have e1 : ((4 : Int32) + 1).toInt = 5 := by decide
      have e2 : (x * ((4 : Int32) + 1)).toInt = x.toInt * 5 := wk_mul x.toInt 5 rfl e1 (by omega) (by omega)
      have e3 : (1 + x * ((4 : Int32) + 1)).toInt = 1 + x.toInt * 5 := wk_add 1 (x.toInt * 5) rfl e2 (by omega) (by omega)
      by_cases c2 : n = 1 + x * ((4 : Int32) + 1)
      · have k2 : n.toInt = 1 + x.toInt * 5 := (wk_eq c2).trans e3
        rw [if_pos c2]
        exact Or.inr ⟨x.toInt, by omega, by omega, rfl, by omega⟩
      · have k2 : ¬ n.toInt = 1 + x.toInt * 5 := fun q => c2 (Int32.toInt_inj.mp (q.trans e3.symm))
        rw [if_neg c2]
        have ex : (x + 1).toInt = x.toInt + 1 := wk_add x.toInt 1 rfl rfl (by omega) (by omega)
        rcases ih (x + 1) (by omega) (by omega) with ⟨h3, h4⟩ | ⟨k, h3, h4, h5, h6⟩
        · refine Or.inl ⟨h3, fun k h5 h6 h7 => ?_⟩
          by_cases hk : k = x.toInt
          · subst hk; omega
          · exact h4 k (by omega) h6 h7
        · exact Or.inr ⟨k, by omega, h4, h5, h6⟩
theorem wk_fle {n : Int32} {f : Nat → Int32} (hn : 0 ≤ n.toInt ∧ n.toInt ≤ 44) : (fn_X12_faultOf n f).toInt ≤ n.toInt := by
  have key : ∀ (fu : Nat) (a : Int32), (44 - a.toInt < (fu : Int)) → (0 ≤ a.toInt ∧ a.toInt ≤ n.toInt) → (lp_X12_faultOf_2 n f fu a).1.toInt ≤ n.toInt := by
    intro fu
    induction fu with
    | zero => intro a h1 h2; omega
    | succ fu ih =>
      intro a h1 h2
      rw [lp_X12_faultOf_2]
      by_cases c : n ≤ a
      · rw [if_pos c]; exact h2.2
      · have k : ¬ n.toInt ≤ a.toInt := wk_nle c
        rw [if_neg c]
        by_cases q : fn_X12_isGood f a = 0
        · rw [if_pos q]; exact h2.2
        · rw [if_neg q]
          have e1 : (a + 1).toInt = a.toInt + 1 := wk_add a.toInt 1 rfl rfl (by omega) (by omega)
          exact ih (a + 1) (by omega) (by omega)
  unfold fn_X12_faultOf
  have h := key 50 0 (by decide) ⟨by decide, hn.1⟩
  unfold pm2
  exact h
theorem wk_sgn {n : Int32} {f : Nat → Int32} (hn : 0 ≤ n.toInt) : (fn_X6_signsOfKey n f = (-1) ∧ (n.toInt = 0 ∨ fn_X12_lawBy (f (0 : Int32).toNatClampNeg) = (-1))) ∨ (0 < n.toInt ∧ ¬ fn_X12_lawBy (f (0 : Int32).toNatClampNeg) = (-1) ∧ ((fn_X6_signsOfKey n f = 3 ∧ fn_X12_wide f = 4) ∨ (fn_X6_signsOfKey n f = 4 ∧ fn_X12_wide f = 5))) := by
  unfold fn_X6_signsOfKey fn_X12_lawBy fn_X12_wide
  obtain ⟨z, ez⟩ : ∃ z : Int32, z = f (0 : Int32).toNatClampNeg := ⟨_, rfl⟩
  rw [← ez]
  by_cases c0 : n ≤ 0
  · have k0 : n.toInt ≤ 0 := wk_le c0
    rw [if_pos c0]
    exact Or.inl ⟨rfl, Or.inl (by omega)⟩
  · have k0 : ¬ n.toInt ≤ 0 := wk_nle c0
    rw [if_neg c0]
    by_cases c1 : z = 100
    · refine Or.inr ⟨by omega, ?_⟩
      rw [c1]
      exact ⟨by decide, Or.inl ⟨by decide, by decide⟩⟩
    · by_cases c2 : z = 101
      · refine Or.inr ⟨by omega, ?_⟩
        rw [c2]
        exact ⟨by decide, Or.inl ⟨by decide, by decide⟩⟩
      · by_cases c3 : z = 104
        · refine Or.inr ⟨by omega, ?_⟩
          rw [c3]
          exact ⟨by decide, Or.inl ⟨by decide, by decide⟩⟩
        · by_cases c4 : z = 115
          · refine Or.inr ⟨by omega, ?_⟩
            rw [c4]
            exact ⟨by decide, Or.inl ⟨by decide, by decide⟩⟩
          · by_cases c5 : z = 116
            · refine Or.inr ⟨by omega, ?_⟩
              rw [c5]
              exact ⟨by decide, Or.inr ⟨by decide, by decide⟩⟩
            · rw [if_neg c1, if_neg c2, if_neg c3, if_neg c4, if_neg c5, if_neg c1, if_neg c2, if_neg c3, if_neg c4, if_neg c5]
              exact Or.inl ⟨rfl, Or.inr rfl⟩
/-- the first fault of the page, by both; and how far it is at most -/
theorem wk_fault {n : Int32} {f : Nat → Int32} (hn : 0 ≤ n.toInt ∧ n.toInt ≤ 44) : fn_X12_faultOf n f = fn_X6_firstFault n f ∧ (fn_X6_firstFault n f).toInt ≤ 8 * (fn_X12_wide f).toInt + 1 := by
  have hwide := wk_wide f
  unfold fn_X12_faultOf fn_X6_firstFault
  rw [lp_X12_faultOf_2]
  rcases wk_sgn (n := n) (f := f) hn.1 with ⟨hs, hq⟩ | ⟨h0, hl, hsw⟩
  · rw [if_pos hs]
    have h9 : (0 : Int32).toInt = 0 := rfl
    by_cases c0 : n ≤ 0
    · rw [if_pos c0, pm2_mk]
      exact ⟨rfl, by omega⟩
    · have k0 : ¬ n.toInt ≤ 0 := wk_nle c0
      have hl : fn_X12_lawBy (f (0 : Int32).toNatClampNeg) = (-1) := hq.resolve_left (by omega)
      rw [if_neg c0, fn_X12_isGood, if_pos rfl, if_pos hl, if_pos rfl, pm2_mk]
      exact ⟨rfl, by omega⟩
  · have c0 : ¬ n ≤ 0 := fun q => by have k : n.toInt ≤ 0 := wk_le q; omega
    have hs1 : ¬ fn_X6_signsOfKey n f = (-1) := by rcases hsw with ⟨h, -⟩ | ⟨h, -⟩ <;> rw [h] <;> decide
    have e01 : (0 : Int32) + 1 = 1 := by decide
    have e11 : (1 : Int32) + 1 = 2 := by decide
    rw [if_neg c0, fn_X12_isGood, if_pos rfl, if_neg hl, if_neg (by decide), if_neg hs1, e01, lp_X12_faultOf_2]
    by_cases c1 : n ≤ 1
    · have k1 : n.toInt ≤ 1 := wk_le c1
      have hn1 : n = 1 := Int32.toInt_inj.mp (by show n.toInt = 1; omega)
      have c2 : n ≤ 2 := Int32.le_iff_toInt_le.mpr (by show n.toInt ≤ 2; omega)
      rw [if_pos c1, if_pos c1, pm2_mk, lp_X6_firstFault_40, if_pos c2]
      exact ⟨hn1.symm, by omega⟩
    · have k1 : ¬ n.toInt ≤ 1 := wk_nle c1
      have g1 : fn_X12_isGood f 1 = if f (1 : Int32).toNatClampNeg = 59 then 1 else 0 := by rw [fn_X12_isGood, if_neg (show ¬ (1 : Int32) = 0 by decide), if_pos rfl]
      rw [if_neg c1, if_neg c1]
      by_cases c59 : f (1 : Int32).toNatClampNeg = 59
      · have g2 : ¬ fn_X12_isGood f 1 = 0 := by rw [g1, if_pos c59]; decide
        rw [if_neg g2, if_pos c59, e11]
        have key : n.toInt ≤ (2 : Int32).toInt ∨ (lp_X12_faultOf_2 n f 48 2 = (lp_X6_firstFault_40 n f 50 0 0 2, ()) ∧ (lp_X6_firstFault_40 n f 50 0 0 2).toInt ≤ 8 * (fn_X12_wide f).toInt + 1) := by
          rcases hsw with ⟨hs, hw⟩ | ⟨hs, hw⟩
          · rw [hw]; exact wk_lp4 hw hs hn 50 48 0 0 2 (by decide) (by decide) (by decide) (by decide) (by decide) (by decide)
          · rw [hw]; exact wk_lp5 hw hs hn 50 48 0 0 2 (by decide) (by decide) (by decide) (by decide) (by decide) (by decide)
        rcases key with hle | ⟨he, hm⟩
        · have h22 : (2 : Int32).toInt = 2 := rfl
          have c2 : n ≤ 2 := Int32.le_iff_toInt_le.mpr hle
          have hn2 : n = 2 := Int32.toInt_inj.mp (by rw [h22]; omega)
          rw [lp_X12_faultOf_2, lp_X6_firstFault_40, if_pos c2, if_pos c2, pm2_mk]
          exact ⟨hn2.symm, by omega⟩
        · rw [he, pm2_mk]
          exact ⟨rfl, hm⟩
      · have g2 : fn_X12_isGood f 1 = 0 := by rw [g1, if_neg c59]
        rw [if_pos g2, if_neg c59, pm2_mk]
        exact ⟨rfl, by have h11 : (1 : Int32).toInt = 1 := rfl; omega⟩
/-- the keys that the page tells -/
theorem wk_told {n : Int32} {f : Nat → Int32} (hn : 0 ≤ n.toInt ∧ n.toInt ≤ 44) : ((fn_X6_keysTold n f).toInt = -1 ∧ ¬ (2 * (fn_X12_wide f).toInt < n.toInt ∧ (fn_X12_faultOf n f).toInt = n.toInt ∧ (((fn_X12_wide f).toInt = 4 ∧ (n.toInt - 1) % 4 = 0) ∨ ((fn_X12_wide f).toInt = 5 ∧ (n.toInt - 1) % 5 = 0)))) ∨ (((fn_X12_wide f).toInt = 4 ∧ (fn_X6_keysTold n f).toInt = (n.toInt - 1) / 4 ∨ (fn_X12_wide f).toInt = 5 ∧ (fn_X6_keysTold n f).toInt = (n.toInt - 1) / 5) ∧ (2 * (fn_X12_wide f).toInt < n.toInt ∧ (fn_X12_faultOf n f).toInt = n.toInt ∧ (((fn_X12_wide f).toInt = 4 ∧ (n.toInt - 1) % 4 = 0) ∨ ((fn_X12_wide f).toInt = 5 ∧ (n.toInt - 1) % 5 = 0)))) := by
  obtain ⟨hf, hm⟩ := wk_fault (f := f) hn
  have hwide := wk_wide f
  obtain ⟨v, ev⟩ : ∃ v : Int, v = (fn_X12_wide f).toInt := ⟨_, rfl⟩
  obtain ⟨o, eo⟩ : ∃ o : Int, o = (fn_X6_firstFault n f).toInt := ⟨_, rfl⟩
  rw [hf]
  unfold fn_X6_keysTold
  rcases wk_sgn (n := n) (f := f) hn.1 with ⟨hs, hq⟩ | ⟨h0, hl, hsw⟩
  · refine Or.inl ?_
    rw [if_pos hs]
    refine ⟨by decide, fun ⟨h1, h2, _⟩ => ?_⟩
    rw [fn_X6_firstFault, if_pos hs] at h2
    have h9 : (0 : Int32).toInt = 0 := rfl
    omega
  · have hs1 : ¬ fn_X6_signsOfKey n f = (-1) := by rcases hsw with ⟨h, -⟩ | ⟨h, -⟩ <;> rw [h] <;> decide
    rw [if_neg hs1, ← ev, ← eo]
    rw [← ev] at hm hwide
    rw [← eo] at hm
    have hff : o ≤ n.toInt := by rw [eo, ← hf]; exact wk_fle hn
    by_cases c1 : n ≤ fn_X6_firstFault n f
    · have k1 : n.toInt ≤ o := by rw [eo]; exact wk_le c1
      rw [if_pos c1]
      rcases hsw with ⟨hs, hw⟩ | ⟨hs, hw⟩
      · have hv : v = 4 := by rw [ev, hw]; rfl
        rcases wk_kt4 hs hn 10 2 (by decide) (by decide) with ⟨h3, h4⟩ | ⟨k, h3, h4, h5, h6⟩
        · refine Or.inl ⟨h3, fun ⟨g1, g2, g3⟩ => ?_⟩
          exact h4 ((n.toInt - 1) / 4) (by show (2 : Int) ≤ _; omega) (by omega) (by omega)
        · have h3' : (2 : Int) ≤ k := h3
          refine Or.inr ⟨Or.inl ⟨hv, by rw [h5]; omega⟩, ?_⟩
          omega
      · have hv : v = 5 := by rw [ev, hw]; rfl
        rcases wk_kt5 hs hn 10 2 (by decide) (by decide) with ⟨h3, h4⟩ | ⟨k, h3, h4, h5, h6⟩
        · refine Or.inl ⟨h3, fun ⟨g1, g2, g3⟩ => ?_⟩
          exact h4 ((n.toInt - 1) / 5) (by show (2 : Int) ≤ _; omega) (by omega) (by omega)
        · have h3' : (2 : Int) ≤ k := h3
          refine Or.inr ⟨Or.inr ⟨hv, by rw [h5]; omega⟩, ?_⟩
          omega
    · have k1 : ¬ n.toInt ≤ o := by rw [eo]; exact wk_nle c1
      rw [if_neg c1]
      exact Or.inl ⟨by decide, fun ⟨g1, g2, g3⟩ => by omega⟩
theorem wk_page (n : Int32) (f : Nat → Int32) (h : 0 ≤ n.toInt ∧ n.toInt ≤ 44) : ((fn_X6_keysTold n f).toInt = -1 ∧ ¬ (2 * (fn_X12_wide f).toInt < n.toInt ∧ (fn_X12_faultOf n f).toInt = n.toInt ∧ (((fn_X12_wide f).toInt = 4 ∧ (n.toInt - 1) % 4 = 0) ∨ ((fn_X12_wide f).toInt = 5 ∧ (n.toInt - 1) % 5 = 0)))) ∨ (¬ (fn_X6_keysTold n f).toInt = -1 ∧ (2 * (fn_X12_wide f).toInt < n.toInt ∧ (fn_X12_faultOf n f).toInt = n.toInt ∧ (((fn_X12_wide f).toInt = 4 ∧ (n.toInt - 1) % 4 = 0) ∨ ((fn_X12_wide f).toInt = 5 ∧ (n.toInt - 1) % 5 = 0)))) := by
  have hwide := wk_wide f
  rcases wk_told (f := f) h with h1 | ⟨h1, h2⟩
  · exact Or.inl h1
  · refine Or.inr ⟨?_, h2⟩
    omega
theorem wk_faultE {n : Int32} {f : Nat → Int32} (hn : 0 ≤ n.toInt ∧ n.toInt ≤ 44) : fn_X12_fault n f = fn_X11_fault n f := by
  unfold fn_X12_fault fn_X11_fault
  exact (wk_fault hn).1

