theorem ra_goodL {n : Int32} {f : Nat → Int32} (hn : n.toInt ≤ 44) : ∀ (fu : Nat) (x : Int32), 0 ≤ x.toInt → x.toInt ≤ n.toInt → n.toInt - x.toInt < (fu : Int) → (lp_X12_faultOf_2 n f fu x).1.toInt = n.toInt → ∀ a : Int32, x.toInt ≤ a.toInt → a.toInt < n.toInt → ¬ fn_X12_isGood f a = 0 := by
  intro fu
  induction fu with
  | zero => intro x h1 h2 h3; exfalso; omega
  | succ fu ih =>
    intro x h1 h2 h3 h4 a h5 h6
    rw [lp_X12_faultOf_2] at h4
    by_cases c : n ≤ x
    · have k := wk_le c
      exfalso; omega
    · have k := wk_nle c
      simp only [if_neg c] at h4
      by_cases d : fn_X12_isGood f x = 0
      · simp only [if_pos d] at h4
        exfalso; omega
      · simp only [if_neg d] at h4
        have e := ra_inc (x := x) (by omega) h1
        by_cases q : a = x
        · rw [q]; exact d
        · have q2 : ¬ a.toInt = x.toInt := wk_neq q
          exact ih (x + 1) (by omega) (by omega) (by omega) h4 a (by omega) h6
theorem ra_good {n : Int32} {f : Nat → Int32} (hn : 0 ≤ n.toInt ∧ n.toInt ≤ 44) (h : (fn_X12_faultOf n f).toInt = n.toInt) (a : Int32) (h5 : 0 ≤ a.toInt) (h6 : a.toInt < n.toInt) : ¬ fn_X12_isGood f a = 0 := by
  have z : (0 : Int32).toInt = 0 := rfl
  unfold fn_X12_faultOf at h
  rw [ra_pm2] at h
  exact ra_goodL hn.2 50 0 (by omega) (by omega) (by omega) h a (by omega) h6
theorem ra_insE {x b d e : Int32} {K V H T : Nat → Int32} (hx : 0 ≤ x.toInt ∧ x.toInt ≤ 7) : fn_X8_insert x K V H T x b d e = (x + 1, upd K x.toNatClampNeg b, upd V x.toNatClampNeg d, upd H x.toNatClampNeg e, upd T x.toNatClampNeg 0) := by
  have cx : x ≤ x := Int32.le_iff_toInt_le.mpr (Int.le_refl _)
  unfold fn_X8_insert
  rw [if_neg (fun q => by have k : x.toInt < 0 := wk_lt q; omega), if_neg (fun q => by have k := wk_lt q; omega), if_pos (show x < 8 from Int32.lt_iff_toInt_lt.mpr (by show x.toInt < 8; omega)), lp_X8_insert_28]
  simp only [if_pos cx, ra_pm2]
theorem ra_key2 {f : Nat → Int32} {p q : Int32} (eq : p + 1 = q) (h1 : 48 ≤ (f p.toNatClampNeg).toInt ∧ (f p.toNatClampNeg).toInt ≤ 57) (h2 : 48 ≤ (f q.toNatClampNeg).toInt ∧ (f q.toNatClampNeg).toInt ≤ 57) : ra_K (fn_X12_keyAt f p) := by
  unfold fn_X12_keyAt
  rw [eq]
  obtain ⟨u, eu⟩ : ∃ u : Int32, u = f p.toNatClampNeg := ⟨_, rfl⟩
  obtain ⟨v, ev⟩ : ∃ v : Int32, v = f q.toNatClampNeg := ⟨_, rfl⟩
  rw [← eu, ← ev]
  rw [← eu] at h1
  rw [← ev] at h2
  have e1 : (u - 48).toInt = u.toInt - 48 := wk_sub u.toInt 48 rfl rfl (by omega) (by omega)
  have e2 : (10 * (u - 48)).toInt = 10 * (u.toInt - 48) := wk_mul 10 (u.toInt - 48) rfl e1 (by omega) (by omega)
  have e3 : (10 * (u - 48) + v).toInt = 10 * (u.toInt - 48) + v.toInt := wk_add _ _ e2 rfl (by omega) (by omega)
  have e4 : (10 * (u - 48) + v - 48).toInt = 10 * (u.toInt - 48) + v.toInt - 48 := wk_sub _ 48 e3 rfl (by omega) (by omega)
  exact ⟨by omega, by omega⟩
theorem ra_dig {z : Int32} {lo hi : Int} (h : lo + 48 ≤ z.toInt ∧ z.toInt ≤ hi + 48) (h0 : 0 ≤ lo ∧ hi ≤ 50) : lo ≤ (z - 48).toInt ∧ (z - 48).toInt ≤ hi := by
  have e : (z - 48).toInt = z.toInt - 48 := wk_sub z.toInt 48 rfl rfl (by omega) (by omega)
  omega
theorem ra_let4 {f : Nat → Int32} {a : Int32} (hw : fn_X12_wide f = 4) (ha : 2 ≤ a.toInt ∧ a.toInt ≤ 100) (h : ¬ fn_X12_isGood f a = 0) : ((a.toInt - 2) % 4 < 3 → 48 ≤ (f a.toNatClampNeg).toInt ∧ (f a.toNatClampNeg).toInt ≤ 57) ∧ (4 = 5 → (a.toInt - 2) % 4 = 3 → 49 ≤ (f a.toNatClampNeg).toInt ∧ (f a.toNatClampNeg).toInt ≤ 52) := by
  have na0 : ¬ a = 0 := fun q => by rw [q] at ha; exact absurd ha.1 (by decide)
  have na1 : ¬ a = 1 := fun q => by rw [q] at ha; exact absurd ha.1 (by decide)
  unfold fn_X12_isGood at h
  rw [if_neg na0, if_neg na1] at h
  unfold fn_X12_isKeyLetter at h
  rw [hw] at h
  obtain ⟨y, ey⟩ : ∃ y : Int32, y = a - 2 := ⟨_, rfl⟩
  have e2 : y.toInt = a.toInt - 2 := by rw [ey]; exact wk_sub a.toInt 2 rfl rfl (by omega) (by omega)
  rw [← ey] at h
  obtain ⟨m, em⟩ : ∃ m : Int32, m = y - y / 4 * 4 := ⟨_, rfl⟩
  have e3 : m.toInt = (a.toInt - 2) % 4 := by rw [em, wk_rem (x := y) (y := 4) 4 rfl (by omega) (by decide), e2]
  rw [← em] at h
  rw [← e3]
  obtain ⟨z, ez⟩ : ∃ z : Int32, z = f a.toNatClampNeg := ⟨_, rfl⟩
  rw [← ez] at h
  rw [← ez]
  have e4 : ((4 : Int32) - 1).toInt = 3 := by decide
  by_cases c1 : m = 1
  · have k1 : m.toInt = 1 := wk_eq c1
    rw [if_pos c1] at h
    rcases ra_in (a := z) (lo := 48) (hi := 57) 48 57 rfl rfl with ⟨u1, u2, u3⟩ | ⟨u1, u2⟩
    · exact ⟨fun _ => ⟨u1, u2⟩, fun _ q => by omega⟩
    · rw [if_pos u2] at h
      exact absurd rfl h
  · have k1 : ¬ m.toInt = 1 := wk_neq c1
    rw [if_neg c1] at h
    by_cases c2 : m = 4 - 1
    · have k2 : m.toInt = 3 := by rw [c2]; exact e4
      exact ⟨fun q => by omega, fun q q2 => by omega⟩
    · rw [if_neg c2] at h
      by_cases c3 : m = 3
      · have k3 : m.toInt = 3 := wk_eq c3
        rw [if_pos c3] at h
        rcases ra_in (a := z) (lo := 49) (hi := 52) 49 52 rfl rfl with ⟨u1, u2, u3⟩ | ⟨u1, u2⟩
        · exact ⟨fun q => by omega, fun _ _ => ⟨u1, u2⟩⟩
        · exact absurd u2 h
      · have k3 : ¬ m.toInt = 3 := wk_neq c3
        rw [if_neg c3] at h
        rcases ra_in (a := z) (lo := 48) (hi := 57) 48 57 rfl rfl with ⟨u1, u2, u3⟩ | ⟨u1, u2⟩
        · exact ⟨fun _ => ⟨u1, u2⟩, fun _ q => by omega⟩
        · exact absurd u2 h
theorem ra_row4L {n kt : Int32} {f : Nat → Int32} (hn : 0 ≤ n.toInt ∧ n.toInt ≤ 44) (hw : fn_X12_wide f = 4) (hs : fn_X6_signsOfKey n f = 3) (hl : ¬ fn_X12_lawBy (f (0 : Int32).toNatClampNeg) = 0) (hg : ∀ a : Int32, 0 ≤ a.toInt → a.toInt < n.toInt → ¬ fn_X12_isGood f a = 0) (hk : fn_X6_keysTold n f = kt) (hm : (n - 1) / 4 = kt) (h8 : kt.toInt ≤ 8) (hN : n.toInt = 4 * kt.toInt + 1) {q0 m1 m2 m3 m4 m5 m6 m7 m8 : Int32} {k0 v0 h0 t0 k1 v1 h1 t1 : Nat → Int32} :
    ∀ (fu : Nat) (x : Int32) (K K' V V' H H' T T' : Nat → Int32), 0 ≤ x.toInt → x.toInt ≤ kt.toInt → kt.toInt - x.toInt < (fu : Int) → ra_ag ra_K x.toInt K K' → ra_ag ra_V x.toInt V V' → ra_ag ra_H x.toInt H H' → ra_ag ra_K x.toInt T T' →
    ∃ (K2 V2 H2 T2 K3 V3 H3 T3 : Nat → Int32), lp_X6_tellTo_13 n f q0 k0 v0 h0 t0 fu x x K V H T = (kt, kt, K2, V2, H2, T2) ∧ lp_X12_row_81 n m1 m2 m3 m4 m5 m6 m7 m8 f k1 v1 h1 t1 fu x K' V' H' T' = (kt, K3, V3, H3, T3) ∧ ra_ag ra_K kt.toInt K2 K3 ∧ ra_ag ra_V kt.toInt V2 V3 ∧ ra_ag ra_H kt.toInt H2 H3 ∧ ra_ag ra_K kt.toInt T2 T3 := by
  intro fu
  induction fu with
  | zero => intro x K K' V V' H H' T T' g1 g2 g3; exfalso; omega
  | succ fu ih =>
    intro x K K' V V' H H' T T' g1 g2 g3 i1 i2 i3 i4
    rw [lp_X6_tellTo_13, lp_X12_row_81, hw, hs, hk, hm]
    by_cases c : kt ≤ x
    · have k := wk_le c
      have e : x = kt := Int32.toInt_inj.mp (by omega)
      subst e
      simp only [if_pos c]
      exact ⟨K, V, H, T, K', V', H', T', rfl, rfl, i1, i2, i3, i4⟩
    · have k := wk_nle c
      simp only [if_neg c, if_pos (show (3 : Int32) ≤ 3 by decide), if_neg hl]
      obtain ⟨p, ep⟩ : ∃ p : Int32, p = 2 + (4 * x) := ⟨_, rfl⟩
      have e1 : ((4 : Int32) * x).toInt = 4 * x.toInt := wk_mul 4 x.toInt rfl rfl (by omega) (by omega)
      have e2 : p.toInt = 2 + 4 * x.toInt := by rw [ep]; exact wk_add 2 _ rfl e1 (by omega) (by omega)
      have e3 : (x * ((3 : Int32) + 1)).toInt = x.toInt * 4 := wk_mul x.toInt 4 rfl (by decide) (by omega) (by omega)
      have e4 : 2 + (x * ((3 : Int32) + 1)) = p := Int32.toInt_inj.mp (by rw [wk_add 2 _ rfl e3 (by omega) (by omega), e2]; omega)
      rw [← ep, e4]
      have p1 : (p + 1).toInt = p.toInt + 1 := wk_add p.toInt 1 rfl rfl (by omega) (by omega)
      have p2 : (p + 2).toInt = p.toInt + 2 := wk_add p.toInt 2 rfl rfl (by omega) (by omega)
      have l0 := (ra_let4 (a := p) hw (by omega) (hg p (by omega) (by omega))).1 (by omega)
      have l1 := (ra_let4 (a := p + 1) hw (by omega) (hg (p + 1) (by omega) (by omega))).1 (by omega)
      have l2 := (ra_let4 (a := p + 2) hw (by omega) (hg (p + 2) (by omega) (by omega))).1 (by omega)
      rw [wk_keyAt (n := n) (p := p) (by omega) (by omega) hn.2, wk_digit (n := n) (p := p + 2) (by omega) (by omega), ra_insE (x := x) (by omega)]
      simp only [ra_pm2]
      have e := ra_inc (x := x) (by omega) g1
      have ix := ra_ix (x := x) g1
      exact ih (x + 1) _ _ _ _ _ _ _ _ (by omega) (by omega) (by omega) (ra_snoc i1 ix e rfl (ra_key2 rfl l0 l1)) (ra_snoc i2 ix e rfl (ra_dig (lo := 0) (hi := 9) (by omega) (by omega))) (ra_snoc i3 ix e rfl (show ra_H 1 from ⟨by decide, by decide⟩)) (ra_snoc i4 ix e rfl (show ra_K 0 from ⟨by decide, by decide⟩))
theorem ra_let5 {f : Nat → Int32} {a : Int32} (hw : fn_X12_wide f = 5) (ha : 2 ≤ a.toInt ∧ a.toInt ≤ 100) (h : ¬ fn_X12_isGood f a = 0) : ((a.toInt - 2) % 5 < 3 → 48 ≤ (f a.toNatClampNeg).toInt ∧ (f a.toNatClampNeg).toInt ≤ 57) ∧ (5 = 5 → (a.toInt - 2) % 5 = 3 → 49 ≤ (f a.toNatClampNeg).toInt ∧ (f a.toNatClampNeg).toInt ≤ 52) := by
  have na0 : ¬ a = 0 := fun q => by rw [q] at ha; exact absurd ha.1 (by decide)
  have na1 : ¬ a = 1 := fun q => by rw [q] at ha; exact absurd ha.1 (by decide)
  unfold fn_X12_isGood at h
  rw [if_neg na0, if_neg na1] at h
  unfold fn_X12_isKeyLetter at h
  rw [hw] at h
  obtain ⟨y, ey⟩ : ∃ y : Int32, y = a - 2 := ⟨_, rfl⟩
  have e2 : y.toInt = a.toInt - 2 := by rw [ey]; exact wk_sub a.toInt 2 rfl rfl (by omega) (by omega)
  rw [← ey] at h
  obtain ⟨m, em⟩ : ∃ m : Int32, m = y - y / 5 * 5 := ⟨_, rfl⟩
  have e3 : m.toInt = (a.toInt - 2) % 5 := by rw [em, wk_rem (x := y) (y := 5) 5 rfl (by omega) (by decide), e2]
  rw [← em] at h
  rw [← e3]
  obtain ⟨z, ez⟩ : ∃ z : Int32, z = f a.toNatClampNeg := ⟨_, rfl⟩
  rw [← ez] at h
  rw [← ez]
  have e4 : ((5 : Int32) - 1).toInt = 4 := by decide
  by_cases c1 : m = 1
  · have k1 : m.toInt = 1 := wk_eq c1
    rw [if_pos c1] at h
    rcases ra_in (a := z) (lo := 48) (hi := 57) 48 57 rfl rfl with ⟨u1, u2, u3⟩ | ⟨u1, u2⟩
    · exact ⟨fun _ => ⟨u1, u2⟩, fun _ q => by omega⟩
    · rw [if_pos u2] at h
      exact absurd rfl h
  · have k1 : ¬ m.toInt = 1 := wk_neq c1
    rw [if_neg c1] at h
    by_cases c2 : m = 5 - 1
    · have k2 : m.toInt = 4 := by rw [c2]; exact e4
      exact ⟨fun q => by omega, fun q q2 => by omega⟩
    · rw [if_neg c2] at h
      by_cases c3 : m = 3
      · have k3 : m.toInt = 3 := wk_eq c3
        rw [if_pos c3] at h
        rcases ra_in (a := z) (lo := 49) (hi := 52) 49 52 rfl rfl with ⟨u1, u2, u3⟩ | ⟨u1, u2⟩
        · exact ⟨fun q => by omega, fun _ _ => ⟨u1, u2⟩⟩
        · exact absurd u2 h
      · have k3 : ¬ m.toInt = 3 := wk_neq c3
        rw [if_neg c3] at h
        rcases ra_in (a := z) (lo := 48) (hi := 57) 48 57 rfl rfl with ⟨u1, u2, u3⟩ | ⟨u1, u2⟩
        · exact ⟨fun _ => ⟨u1, u2⟩, fun _ q => by omega⟩
        · exact absurd u2 h
theorem ra_row5L {n kt : Int32} {f : Nat → Int32} (hn : 0 ≤ n.toInt ∧ n.toInt ≤ 44) (hw : fn_X12_wide f = 5) (hs : fn_X6_signsOfKey n f = 4) (hl :  fn_X12_lawBy (f (0 : Int32).toNatClampNeg) = 0) (hg : ∀ a : Int32, 0 ≤ a.toInt → a.toInt < n.toInt → ¬ fn_X12_isGood f a = 0) (hk : fn_X6_keysTold n f = kt) (hm : (n - 1) / 5 = kt) (h8 : kt.toInt ≤ 8) (hN : n.toInt = 5 * kt.toInt + 1) {q0 m1 m2 m3 m4 m5 m6 m7 m8 : Int32} {k0 v0 h0 t0 k1 v1 h1 t1 : Nat → Int32} :
    ∀ (fu : Nat) (x : Int32) (K K' V V' H H' T T' : Nat → Int32), 0 ≤ x.toInt → x.toInt ≤ kt.toInt → kt.toInt - x.toInt < (fu : Int) → ra_ag ra_K x.toInt K K' → ra_ag ra_V x.toInt V V' → ra_ag ra_H x.toInt H H' → ra_ag ra_K x.toInt T T' →
    ∃ (K2 V2 H2 T2 K3 V3 H3 T3 : Nat → Int32), lp_X6_tellTo_13 n f q0 k0 v0 h0 t0 fu x x K V H T = (kt, kt, K2, V2, H2, T2) ∧ lp_X12_row_81 n m1 m2 m3 m4 m5 m6 m7 m8 f k1 v1 h1 t1 fu x K' V' H' T' = (kt, K3, V3, H3, T3) ∧ ra_ag ra_K kt.toInt K2 K3 ∧ ra_ag ra_V kt.toInt V2 V3 ∧ ra_ag ra_H kt.toInt H2 H3 ∧ ra_ag ra_K kt.toInt T2 T3 := by
  intro fu
  induction fu with
  | zero => intro x K K' V V' H H' T T' g1 g2 g3; exfalso; omega
  | succ fu ih =>
    intro x K K' V V' H H' T T' g1 g2 g3 i1 i2 i3 i4
    rw [lp_X6_tellTo_13, lp_X12_row_81, hw, hs, hk, hm]
    by_cases c : kt ≤ x
    · have k := wk_le c
      have e : x = kt := Int32.toInt_inj.mp (by omega)
      subst e
      simp only [if_pos c]
      exact ⟨K, V, H, T, K', V', H', T', rfl, rfl, i1, i2, i3, i4⟩
    · have k := wk_nle c
      simp only [if_neg c, if_neg (show ¬ (4 : Int32) ≤ 3 by decide), if_pos hl]
      obtain ⟨p, ep⟩ : ∃ p : Int32, p = 2 + (5 * x) := ⟨_, rfl⟩
      have e1 : ((5 : Int32) * x).toInt = 5 * x.toInt := wk_mul 5 x.toInt rfl rfl (by omega) (by omega)
      have e2 : p.toInt = 2 + 5 * x.toInt := by rw [ep]; exact wk_add 2 _ rfl e1 (by omega) (by omega)
      have e3 : (x * ((4 : Int32) + 1)).toInt = x.toInt * 5 := wk_mul x.toInt 5 rfl (by decide) (by omega) (by omega)
      have e4 : 2 + (x * ((4 : Int32) + 1)) = p := Int32.toInt_inj.mp (by rw [wk_add 2 _ rfl e3 (by omega) (by omega), e2]; omega)
      rw [← ep, e4]
      have p1 : (p + 1).toInt = p.toInt + 1 := wk_add p.toInt 1 rfl rfl (by omega) (by omega)
      have p2 : (p + 2).toInt = p.toInt + 2 := wk_add p.toInt 2 rfl rfl (by omega) (by omega)
      have l0 := (ra_let5 (a := p) hw (by omega) (hg p (by omega) (by omega))).1 (by omega)
      have l1 := (ra_let5 (a := p + 1) hw (by omega) (hg (p + 1) (by omega) (by omega))).1 (by omega)
      have l2 := (ra_let5 (a := p + 2) hw (by omega) (hg (p + 2) (by omega) (by omega))).1 (by omega)
      have p3 : (p + 3).toInt = p.toInt + 3 := wk_add p.toInt 3 rfl rfl (by omega) (by omega)
      have l3 := (ra_let5 (a := p + 3) hw (by omega) (hg (p + 3) (by omega) (by omega))).2 rfl (by omega)
      rw [wk_digit (n := n) (p := p + 3) (by omega) (by omega)]
      rw [wk_keyAt (n := n) (p := p) (by omega) (by omega) hn.2, wk_digit (n := n) (p := p + 2) (by omega) (by omega), ra_insE (x := x) (by omega)]
      simp only [ra_pm2]
      have e := ra_inc (x := x) (by omega) g1
      have ix := ra_ix (x := x) g1
      exact ih (x + 1) _ _ _ _ _ _ _ _ (by omega) (by omega) (by omega) (ra_snoc i1 ix e rfl (ra_key2 rfl l0 l1)) (ra_snoc i2 ix e rfl (ra_dig (lo := 0) (hi := 9) (by omega) (by omega))) (ra_snoc i3 ix e rfl (ra_dig (lo := 1) (hi := 4) (by omega) (by omega))) (ra_snoc i4 ix e rfl (show ra_K 0 from ⟨by decide, by decide⟩))
theorem ra_kindO {f : Nat → Int32} (h : ¬ fn_X12_lawBy (f (0 : Int32).toNatClampNeg) = -1) : ra_kind (wk_lcO (f (0 : Int32).toNatClampNeg)) (fn_X12_lawBy (f (0 : Int32).toNatClampNeg)) := by
  obtain ⟨z, ez⟩ : ∃ z : Int32, z = f (0 : Int32).toNatClampNeg := ⟨_, rfl⟩
  rw [← ez]
  rw [← ez] at h
  unfold wk_lcO wk_bySign fn_X12_lawBy
  unfold fn_X12_lawBy at h
  unfold ra_kind
  by_cases c1 : z = 100
  · rw [if_pos c1, if_pos c1]; exact Or.inr (Or.inr (Or.inr (Or.inr ⟨rfl, rfl⟩)))
  · rw [if_neg c1, if_neg c1]
    rw [if_neg c1] at h
    by_cases c2 : z = 101
    · rw [if_pos c2, if_pos c2]; exact Or.inr (Or.inr (Or.inr (Or.inl ⟨rfl, rfl⟩)))
    · rw [if_neg c2, if_neg c2]
      rw [if_neg c2] at h
      by_cases c3 : z = 104
      · rw [if_pos c3, if_pos c3]; exact Or.inr (Or.inl ⟨rfl, rfl⟩)
      · rw [if_neg c3, if_neg c3]
        rw [if_neg c3] at h
        by_cases c4 : z = 115
        · rw [if_pos c4, if_pos c4]; exact Or.inr (Or.inr (Or.inl ⟨rfl, rfl⟩))
        · rw [if_neg c4, if_neg c4]
          rw [if_neg c4] at h
          by_cases c5 : z = 116
          · rw [if_pos c5, if_pos c5]; exact Or.inl ⟨rfl, rfl⟩
          · rw [if_neg c5] at h
            exact absurd rfl h
theorem ra_law0 {f : Nat → Int32} : (fn_X12_wide f = 4 → ¬ fn_X12_lawBy (f (0 : Int32).toNatClampNeg) = 0) ∧ (fn_X12_wide f = 5 → fn_X12_lawBy (f (0 : Int32).toNatClampNeg) = 0) := by
  obtain ⟨z, ez⟩ : ∃ z : Int32, z = f (0 : Int32).toNatClampNeg := ⟨_, rfl⟩
  unfold fn_X12_wide fn_X12_lawBy
  rw [← ez]
  by_cases c : z = 116
  · subst c
    refine ⟨fun h => ?_, fun _ => by decide⟩
    rw [if_pos rfl] at h
    exact absurd h (by decide)
  · refine ⟨fun _ => ?_, fun h => ?_⟩
    · by_cases c1 : z = 100
      · rw [if_pos c1]; decide
      · rw [if_neg c1]
        by_cases c2 : z = 101
        · rw [if_pos c2]; decide
        · rw [if_neg c2]
          by_cases c3 : z = 104
          · rw [if_pos c3]; decide
          · rw [if_neg c3]
            by_cases c4 : z = 115
            · rw [if_pos c4]; decide
            · rw [if_neg c4, if_neg c]; decide
    · rw [if_neg c] at h
      exact absurd h (by decide)
theorem ra_rowF {n : Int32} {f : Nat → Int32} (hn : 0 ≤ n.toInt ∧ n.toInt ≤ 44) (ht : (fn_X6_keysTold n f).toInt = -1) (lc : Nat) (rw0 as ls ch n0 s0 e0 ml n0' as' ls' ch' rw0' s0' e0' : Int32) (k v h t k' v' h' t' : Nat → Int32) :
    fn_X11_row lc rw0 n f as ls ch n0 k v h t s0 e0 = (-103, rw0, n, as, ls, ch, n0, k, v, h, t, s0, e0) ∧ fn_X12_row n ml n0' as' ls' ch' rw0' s0' e0' f k' v' h' t' = (-103, n, ml, n0', as', ls', ch', rw0', s0', e0', k', v', h', t') := by
  have hwide := wk_wide f
  constructor
  · unfold fn_X11_row
    rw [if_pos (Int32.toInt_inj.mp (show (fn_X6_keysTold n f).toInt = (-1 : Int32).toInt from ht))]
  · rcases wk_told (f := f) hn with ⟨h1, h2⟩ | ⟨h1, h2⟩
    · unfold fn_X12_row
      have e2 : ((2 : Int32) * fn_X12_wide f).toInt = 2 * (fn_X12_wide f).toInt := wk_mul 2 _ rfl rfl (by omega) (by omega)
      have e1 : (n - 1).toInt = n.toInt - 1 := wk_sub n.toInt 1 rfl rfl (by omega) (by omega)
      by_cases c1 : n ≤ (2 * fn_X12_wide f)
      · rw [if_pos c1]
      · have k1 := wk_nle c1
        rw [if_neg c1]
        by_cases c2 : fn_X12_faultOf n f = n
        · have k2 := wk_eq c2
          rw [if_pos c2]
          have h9 := wk_rem45 (x := n - 1) (y := fn_X12_wide f) hwide (by omega)
          rw [if_neg (fun q => by have q1 : (n - 1 - (n - 1) / fn_X12_wide f * fn_X12_wide f).toInt = 0 := wk_eq q; omega)]
        · rw [if_neg c2]
    · exfalso; omega
theorem ra_rowS {n : Int32} {f : Nat → Int32} (hn : 0 ≤ n.toInt ∧ n.toInt ≤ 44) (ht : ¬ (fn_X6_keysTold n f).toInt = -1) (rw0 as ls ch n0 s0 e0 ml n0' as' ls' ch' rw0' s0' e0' : Int32) (k v h t k' v' h' t' : Nat → Int32) :
    ∃ (kt : Int32) (K2 V2 H2 T2 K3 V3 H3 T3 : Nat → Int32), fn_X11_row (wk_lcO (f (0 : Int32).toNatClampNeg)) rw0 n f as ls ch n0 k v h t s0 e0 = (kt, rw0 + 1, 0, 0, 0, 0, kt, K2, V2, H2, T2, 0, 0) ∧ fn_X12_row n ml n0' as' ls' ch' rw0' s0' e0' f k' v' h' t' = (kt, 0, fn_X12_lawBy (f (0 : Int32).toNatClampNeg), kt, 0, 0, 0, rw0' + 1, 0, 0, K3, V3, H3, T3) ∧ 2 ≤ kt.toInt ∧ ra_T kt K2 V2 H2 T2 kt K3 V3 H3 T3 ∧ ra_kind (wk_lcO (f (0 : Int32).toNatClampNeg)) (fn_X12_lawBy (f (0 : Int32).toNatClampNeg)) := by
  have z : (0 : Int32).toInt = 0 := rfl
  have hwide := wk_wide f
  rcases wk_told (f := f) hn with ⟨h1, h2⟩ | ⟨h1, h2, h3, h4⟩
  · exact absurd h1 ht
  rcases wk_sgn (n := n) (f := f) hn.1 with ⟨g1, g2⟩ | ⟨g1, g2, g3⟩
  · exfalso
    apply ht
    unfold fn_X6_keysTold
    rw [if_pos g1]
    rfl
  have hkd := ra_kindO g2
  have hg := ra_good hn h3
  have h8' : n.toInt ≤ 8 * (fn_X12_wide f).toInt + 1 := by
    have h9 := wk_fault (f := f) hn
    have h3' := h3
    rw [h9.1] at h3'
    omega
  have e1 : (n - 1).toInt = n.toInt - 1 := wk_sub n.toInt 1 rfl rfl (by omega) (by omega)
  obtain ⟨kt, ek⟩ : ∃ kt : Int32, fn_X6_keysTold n f = kt := ⟨_, rfl⟩
  rw [ek] at h1
  have e2 : ((2 : Int32) * fn_X12_wide f).toInt = 2 * (fn_X12_wide f).toInt := wk_mul 2 _ rfl rfl (by omega) (by omega)
  have cK : ¬ kt = -1 := fun q => by rw [ek, q] at ht; exact absurd rfl ht
  have c1 : ¬ n ≤ (2 * fn_X12_wide f) := fun q => by have q1 := wk_le q; omega
  have c2 : fn_X12_faultOf n f = n := Int32.toInt_inj.mp h3
  have c3 : (n - 1 - (n - 1) / fn_X12_wide f * fn_X12_wide f) = 0 := by
    have h9 := wk_rem45 (x := n - 1) (y := fn_X12_wide f) hwide (by omega)
    exact Int32.toInt_inj.mp (show _ = (0 : Int) by omega)
  have cD : (n - 1) / fn_X12_wide f = kt := by
    have h9 := wk_div45 (x := n - 1) (y := fn_X12_wide f) hwide (by omega)
    exact Int32.toInt_inj.mp (by omega)
  rcases g3 with ⟨hs, hw⟩ | ⟨hs, hw⟩
  · have kw : (fn_X12_wide f).toInt = 4 := by rw [hw]; rfl
    obtain ⟨K2, V2, H2, T2, K3, V3, H3, T3, q1, q2, j1, j2, j3, j4⟩ := ra_row4L (kt := kt) (f := f) hn hw hs (ra_law0.1 hw) hg ek (by rw [← hw]; exact cD) (by omega) (by omega) (q0 := 0) (m1 := ml) (m2 := n0') (m3 := as') (m4 := ls') (m5 := ch') (m6 := rw0') (m7 := s0') (m8 := e0') (k0 := k) (v0 := v) (h0 := h) (t0 := t) (k1 := k') (v1 := v') (h1 := h') (t1 := t') 10 0 k k' v v' h h' t t' (by omega) (by omega) (by omega) (ra_nil (by omega)) (ra_nil (by omega)) (ra_nil (by omega)) (ra_nil (by omega))
    refine ⟨kt, K2, V2, fn_X11_raiseTowers_R (wk_lcO (f (0 : Int32).toNatClampNeg)) kt K2 H2, T2, K3, V3, fn_X12_layHeights (fn_X12_lawBy (f (0 : Int32).toNatClampNeg)) kt K3 H3, T3, ?_, ?_, by omega, ⟨rfl, by omega, j1, j2, ra_rt hkd (by omega) j1 j3, j4⟩, hkd⟩
    · unfold fn_X11_row
      rw [ek, if_neg cK]
      unfold fn_X2_clear fn_X6_tellTo fn_X4_clear fn_X6_clear
      simp only [ra_pm2, ra_pm1]
      rw [q1]
    · unfold fn_X12_row
      rw [if_neg c1, if_pos c2, if_pos c3, cD, q2]
      simp only [ra_pm2, ra_pm1]
  · have kw : (fn_X12_wide f).toInt = 5 := by rw [hw]; rfl
    obtain ⟨K2, V2, H2, T2, K3, V3, H3, T3, q1, q2, j1, j2, j3, j4⟩ := ra_row5L (kt := kt) (f := f) hn hw hs (ra_law0.2 hw) hg ek (by rw [← hw]; exact cD) (by omega) (by omega) (q0 := 0) (m1 := ml) (m2 := n0') (m3 := as') (m4 := ls') (m5 := ch') (m6 := rw0') (m7 := s0') (m8 := e0') (k0 := k) (v0 := v) (h0 := h) (t0 := t) (k1 := k') (v1 := v') (h1 := h') (t1 := t') 10 0 k k' v v' h h' t t' (by omega) (by omega) (by omega) (ra_nil (by omega)) (ra_nil (by omega)) (ra_nil (by omega)) (ra_nil (by omega))
    refine ⟨kt, K2, V2, fn_X11_raiseTowers_R (wk_lcO (f (0 : Int32).toNatClampNeg)) kt K2 H2, T2, K3, V3, fn_X12_layHeights (fn_X12_lawBy (f (0 : Int32).toNatClampNeg)) kt K3 H3, T3, ?_, ?_, by omega, ⟨rfl, by omega, j1, j2, ra_rt hkd (by omega) j1 j3, j4⟩, hkd⟩
    · unfold fn_X11_row
      rw [ek, if_neg cK]
      unfold fn_X2_clear fn_X6_tellTo fn_X4_clear fn_X6_clear
      simp only [ra_pm2, ra_pm1]
      rw [q1]
    · unfold fn_X12_row
      rw [if_neg c1, if_pos c2, if_pos c3, cD, q2]
      simp only [ra_pm2, ra_pm1]
