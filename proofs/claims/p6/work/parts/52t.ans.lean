theorem ra_addE (s : Int32) (c : Nat → Int32) (v : Int32) (h : s.toInt < 44) : fn_X6_add s c v = (s + 1, s + 1, upd c s.toNatClampNeg v) := by
  unfold fn_X6_add
  exact if_neg (fun q => by have q1 : 44 ≤ s.toInt := wk_le q; omega)
theorem ra_wrS {s s2 v : Int32} {c : Nat → Int32} {F : Int32 → Int32} (h : ∀ y : Int32, 0 ≤ y.toInt → y.toInt < s.toInt → c y.toNatClampNeg = F y) (hs : 0 ≤ s.toInt) (e : s2.toInt = s.toInt + 1) (hv : F s = v) : ∀ y : Int32, 0 ≤ y.toInt → y.toInt < s2.toInt → upd c s.toNatClampNeg v y.toNatClampNeg = F y := by
  intro y h1 h2
  by_cases q : y = s
  · rw [q, ra_ua, hv]
  · have kq : ¬ y.toInt = s.toInt := wk_neq q
    have e1 := ra_ix (x := y) h1
    have e2 := ra_ix (x := s) hs
    rw [ra_un _ _ (show ¬ y.toNatClampNeg = s.toNatClampNeg by omega)]
    exact h y h1 (by omega)
theorem ra_ta4 {ml n x y : Int32} {k v h : Nat → Int32} (hl : ¬ ml = 0) (hn : 1 ≤ n.toInt ∧ n.toInt ≤ 8) (hx : 0 ≤ x.toInt ∧ x.toInt < n.toInt) (o : Int) (ho : 0 ≤ o ∧ o ≤ 3) (hy : y.toInt = 2 + 4 * x.toInt + o) : 
    (o = 0 → fn_X12_tapeAt ml n k v h y = 48 + (k x.toNatClampNeg / 10)) ∧ (o = 1 → fn_X12_tapeAt ml n k v h y = 48 + (k x.toNatClampNeg - k x.toNatClampNeg / 10 * 10)) ∧ (o = 2 → fn_X12_tapeAt ml n k v h y = 48 + v x.toNatClampNeg) ∧ (o = 3 ∧ 4 = 5 → fn_X12_tapeAt ml n k v h y = 48 + h x.toNatClampNeg) ∧ (o = 3 → x.toInt + 1 < n.toInt → fn_X12_tapeAt ml n k v h y = 44) ∧ (o = 3 → x.toInt + 1 = n.toInt → fn_X12_tapeAt ml n k v h y = -1) := by
  obtain ⟨z, ez⟩ : ∃ z : Int32, z = y - 2 := ⟨_, rfl⟩
  have e1 : z.toInt = 4 * x.toInt + o := by rw [ez, wk_sub y.toInt 2 rfl rfl (by omega) (by omega)]; omega
  have e2 : z / 4 = x := Int32.toInt_inj.mp (by rw [wk_div (x := z) (y := 4) 4 rfl (by omega) (by decide)]; omega)
  obtain ⟨q, eq⟩ : ∃ q : Int32, q = z - z / 4 * 4 := ⟨_, rfl⟩
  have e3 : q.toInt = o := by rw [eq, wk_rem (x := z) (y := 4) 4 rfl (by omega) (by decide)]; omega
  have e4 : (n - 1).toInt = n.toInt - 1 := wk_sub n.toInt 1 rfl rfl (by omega) (by omega)
  have ev : ∀ (j : Int32) (i : Int), j.toInt = i → ((o = i → q = j) ∧ (¬ o = i → ¬ q = j)) := fun j i hj => ⟨fun u => Int32.toInt_inj.mp (by omega), fun u w => u (by rw [w] at e3; omega)⟩
  have v0 := ev 0 0 rfl
  have v1 := ev 1 1 rfl
  have v2 := ev 2 2 rfl
  have v3 := ev 3 3 rfl
  unfold fn_X12_tapeAt
  rw [← ez, if_pos (show (2 : Int32) ≤ y from Int32.le_iff_toInt_le.mpr (show 2 ≤ y.toInt by omega)), if_neg hl, ← eq, e2, if_neg (show ¬ n ≤ x from fun u => by have u1 := wk_le u; omega)]
  refine ⟨fun u => ?_, fun u => ?_, fun u => ?_, fun u => ?_, fun u w => ?_, fun u w => ?_⟩
  · have c0 := v0.1 u
    have c3 := v3.2 (by omega)
    by_cases c : x = n - 1
    · simp only [if_pos c, if_neg c3, if_pos c0]
    · simp only [if_neg c, if_neg c3, if_pos c0]
  · have c0 := v0.2 (by omega)
    have c1 := v1.1 u
    have c3 := v3.2 (by omega)
    by_cases c : x = n - 1
    · simp only [if_pos c, if_neg c3, if_neg c0, if_pos c1]
    · simp only [if_neg c, if_neg c3, if_neg c0, if_pos c1]
  · have c0 := v0.2 (by omega)
    have c1 := v1.2 (by omega)
    have c2 := v2.1 u
    have c3 := v3.2 (by omega)
    by_cases c : x = n - 1
    · simp only [if_pos c, if_neg c3, if_neg c0, if_neg c1, if_pos c2]
    · simp only [if_neg c, if_neg c3, if_neg c0, if_neg c1, if_pos c2]
  · exact absurd u.2 (by decide)
  · have c3 := v3.1 u
    have c : ¬ x = n - 1 := fun t => by have t1 := wk_eq t; omega
    simp only [if_neg c, if_pos c3]
  · have c3 := v3.1 u
    have c : x = n - 1 := Int32.toInt_inj.mp (by omega)
    simp only [if_pos c, if_pos c3]
theorem ra_tb4 {ml n y : Int32} {k v h : Nat → Int32} (hl : ¬ ml = 0) (hn : 1 ≤ n.toInt ∧ n.toInt ≤ 8) (hy : 1 + 4 * n.toInt ≤ y.toInt) (hy2 : y.toInt ≤ 50) : fn_X12_tapeAt ml n k v h y = -1 := by
  obtain ⟨z, ez⟩ : ∃ z : Int32, z = y - 2 := ⟨_, rfl⟩
  have e1 : z.toInt = y.toInt - 2 := by rw [ez, wk_sub y.toInt 2 rfl rfl (by omega) (by omega)]
  have e2 : (z / 4).toInt = z.toInt / 4 := wk_div (x := z) (y := 4) 4 rfl (by omega) (by decide)
  by_cases c : n ≤ z / 4
  · unfold fn_X12_tapeAt
    rw [← ez, if_pos (show (2 : Int32) ≤ y from Int32.le_iff_toInt_le.mpr (show 2 ≤ y.toInt by omega)), if_neg hl, if_pos c]
  · have kc := wk_nle c
    have e4 : (n - 1).toInt = n.toInt - 1 := wk_sub n.toInt 1 rfl rfl (by omega) (by omega)
    exact (ra_ta4 (x := n - 1) hl hn (by omega) 3 (by omega) (by omega)).2.2.2.2.2 rfl (by omega)
theorem ra_wr4L {lc : Nat} {ml n p1 p2 p3 p4 p5 : Int32} {k v h k' v' h' u0 u1 : Nat → Int32} (hl : ¬ ml = 0) (ht :  fn_law_tellsHeights lc = 0) (hn : 1 ≤ n.toInt ∧ n.toInt ≤ 8) (i1 : ra_ag ra_K n.toInt k k') (i2 : ra_ag ra_V n.toInt v v') (i3 : ra_ag ra_H n.toInt h h') : ∀ (fu : Nat) (x s : Int32) (c : Nat → Int32), 0 ≤ x.toInt → x.toInt ≤ n.toInt → n.toInt - x.toInt < (fu : Int) → s.toInt = 1 + 4 * x.toInt → (∀ y : Int32, 0 ≤ y.toInt → y.toInt < s.toInt → c y.toNatClampNeg = fn_X12_tapeAt ml n k' v' h' y) →
    ∃ (x2 s2 : Int32) (c2 : Nat → Int32), lp_X6_write_16 lc p1 u0 n k v h p2 p3 p4 u1 p5 fu x s c = (x2, s2, c2) ∧ s2.toInt = 1 + 4 * n.toInt ∧ (∀ y : Int32, 0 ≤ y.toInt → y.toInt < s2.toInt → c2 y.toNatClampNeg = fn_X12_tapeAt ml n k' v' h' y) := by
  intro fu
  induction fu with
  | zero => intro x s c g1 g2 g3; exfalso; omega
  | succ fu ih =>
    intro x s c g1 g2 g3 g4 g5
    rw [lp_X6_write_16]
    by_cases q : n ≤ x
    · have kq := wk_le q
      simp only [if_pos q]
      exact ⟨x, s, c, rfl, by omega, g5⟩
    · have kq := wk_nle q
      simp only [if_neg q]
      have e := ra_inc (x := x) (by omega) g1
      have s1 := ra_inc (x := s) (by omega) (by omega)
      have s2 := ra_inc (x := s + 1) (by omega) (by omega)
      have s3 := ra_inc (x := s + 1 + 1) (by omega) (by omega)
      have s4 := ra_inc (x := s + 1 + 1 + 1) (by omega) (by omega)
      rw [(ra_at i1 g1 (by omega)).1, (ra_at i2 g1 (by omega)).1]
      have sep : fn_X12_tapeAt ml n k' v' h' s = if x = 0 then 59 else 44 := by
        by_cases w : x = 0
        · have kw : x.toInt = 0 := wk_eq w
          rw [if_pos w]
          unfold fn_X12_tapeAt
          rw [if_neg (show ¬ (2 : Int32) ≤ s from fun u => by have u1 : 2 ≤ s.toInt := wk_le u; omega), if_neg (show ¬ s = 0 from fun u => by have u1 : s.toInt = 0 := wk_eq u; omega)]
        · have kw : ¬ x.toInt = 0 := wk_neq w
          rw [if_neg w]
          have e9 : (x - 1).toInt = x.toInt - 1 := wk_sub x.toInt 1 rfl rfl (by omega) (by omega)
          exact (ra_ta4 (x := x - 1) hl hn (by omega) 3 (by omega) (by omega)).2.2.2.2.1 rfl (by omega)
      have t1 := (ra_ta4 (k := k') (v := v') (h := h') (x := x) (y := s + 1) hl hn (by omega) 0 (by omega) (by omega)).1 rfl
      have t2 := (ra_ta4 (k := k') (v := v') (h := h') (x := x) (y := s + 1 + 1) hl hn (by omega) 1 (by omega) (by omega)).2.1 rfl
      have t3 := (ra_ta4 (k := k') (v := v') (h := h') (x := x) (y := s + 1 + 1 + 1) hl hn (by omega) 2 (by omega) (by omega)).2.2.1 rfl
      by_cases w : x = 0
      · rw [if_pos w] at sep
        simp only [if_pos w]
        rw [ra_addE s _ _ (by omega)]
        simp only [ra_pm2]
        rw [ra_addE (s + 1) _ _ (by omega)]
        simp only [ra_pm2]
        rw [ra_addE (s + 1 + 1) _ _ (by omega)]
        simp only [ra_pm2]
        rw [ra_addE (s + 1 + 1 + 1) _ _ (by omega)]
        simp only [ra_pm2, if_pos ht]
        refine ih (x + 1) _ _ (by omega) (by omega) (by omega) (by omega) ?_
        exact ra_wrS (ra_wrS (ra_wrS (ra_wrS g5 (by omega) s1 sep) (by omega) s2 t1) (by omega) s3 t2) (by omega) s4 t3
      · rw [if_neg w] at sep
        simp only [if_neg w]
        rw [ra_addE s _ _ (by omega)]
        simp only [ra_pm2]
        rw [ra_addE (s + 1) _ _ (by omega)]
        simp only [ra_pm2]
        rw [ra_addE (s + 1 + 1) _ _ (by omega)]
        simp only [ra_pm2]
        rw [ra_addE (s + 1 + 1 + 1) _ _ (by omega)]
        simp only [ra_pm2, if_pos ht]
        refine ih (x + 1) _ _ (by omega) (by omega) (by omega) (by omega) ?_
        exact ra_wrS (ra_wrS (ra_wrS (ra_wrS g5 (by omega) s1 sep) (by omega) s2 t1) (by omega) s3 t2) (by omega) s4 t3
theorem ra_ta5 {ml n x y : Int32} {k v h : Nat → Int32} (hl :  ml = 0) (hn : 1 ≤ n.toInt ∧ n.toInt ≤ 8) (hx : 0 ≤ x.toInt ∧ x.toInt < n.toInt) (o : Int) (ho : 0 ≤ o ∧ o ≤ 4) (hy : y.toInt = 2 + 5 * x.toInt + o) : 
    (o = 0 → fn_X12_tapeAt ml n k v h y = 48 + (k x.toNatClampNeg / 10)) ∧ (o = 1 → fn_X12_tapeAt ml n k v h y = 48 + (k x.toNatClampNeg - k x.toNatClampNeg / 10 * 10)) ∧ (o = 2 → fn_X12_tapeAt ml n k v h y = 48 + v x.toNatClampNeg) ∧ (o = 3 ∧ 5 = 5 → fn_X12_tapeAt ml n k v h y = 48 + h x.toNatClampNeg) ∧ (o = 4 → x.toInt + 1 < n.toInt → fn_X12_tapeAt ml n k v h y = 44) ∧ (o = 4 → x.toInt + 1 = n.toInt → fn_X12_tapeAt ml n k v h y = -1) := by
  obtain ⟨z, ez⟩ : ∃ z : Int32, z = y - 2 := ⟨_, rfl⟩
  have e1 : z.toInt = 5 * x.toInt + o := by rw [ez, wk_sub y.toInt 2 rfl rfl (by omega) (by omega)]; omega
  have e2 : z / 5 = x := Int32.toInt_inj.mp (by rw [wk_div (x := z) (y := 5) 5 rfl (by omega) (by decide)]; omega)
  obtain ⟨q, eq⟩ : ∃ q : Int32, q = z - z / 5 * 5 := ⟨_, rfl⟩
  have e3 : q.toInt = o := by rw [eq, wk_rem (x := z) (y := 5) 5 rfl (by omega) (by decide)]; omega
  have e4 : (n - 1).toInt = n.toInt - 1 := wk_sub n.toInt 1 rfl rfl (by omega) (by omega)
  have ev : ∀ (j : Int32) (i : Int), j.toInt = i → ((o = i → q = j) ∧ (¬ o = i → ¬ q = j)) := fun j i hj => ⟨fun u => Int32.toInt_inj.mp (by omega), fun u w => u (by rw [w] at e3; omega)⟩
  have v0 := ev 0 0 rfl
  have v1 := ev 1 1 rfl
  have v2 := ev 2 2 rfl
  have v3 := ev 4 4 rfl
  unfold fn_X12_tapeAt
  rw [← ez, if_pos (show (2 : Int32) ≤ y from Int32.le_iff_toInt_le.mpr (show 2 ≤ y.toInt by omega)), if_pos hl, ← eq, e2, if_neg (show ¬ n ≤ x from fun u => by have u1 := wk_le u; omega)]
  refine ⟨fun u => ?_, fun u => ?_, fun u => ?_, fun u => ?_, fun u w => ?_, fun u w => ?_⟩
  · have c0 := v0.1 u
    have c3 := v3.2 (by omega)
    by_cases c : x = n - 1
    · simp only [if_pos c, if_neg c3, if_pos c0]
    · simp only [if_neg c, if_neg c3, if_pos c0]
  · have c0 := v0.2 (by omega)
    have c1 := v1.1 u
    have c3 := v3.2 (by omega)
    by_cases c : x = n - 1
    · simp only [if_pos c, if_neg c3, if_neg c0, if_pos c1]
    · simp only [if_neg c, if_neg c3, if_neg c0, if_pos c1]
  · have c0 := v0.2 (by omega)
    have c1 := v1.2 (by omega)
    have c2 := v2.1 u
    have c3 := v3.2 (by omega)
    by_cases c : x = n - 1
    · simp only [if_pos c, if_neg c3, if_neg c0, if_neg c1, if_pos c2]
    · simp only [if_neg c, if_neg c3, if_neg c0, if_neg c1, if_pos c2]
  · have c0 := v0.2 (by omega)
    have c1 := v1.2 (by omega)
    have c2 := v2.2 (by omega)
    have c3 := v3.2 (by omega)
    by_cases c : x = n - 1
    · simp only [if_pos c, if_neg c3, if_neg c0, if_neg c1, if_neg c2]
    · simp only [if_neg c, if_neg c3, if_neg c0, if_neg c1, if_neg c2]
  · have c3 := v3.1 u
    have c : ¬ x = n - 1 := fun t => by have t1 := wk_eq t; omega
    simp only [if_neg c, if_pos c3]
  · have c3 := v3.1 u
    have c : x = n - 1 := Int32.toInt_inj.mp (by omega)
    simp only [if_pos c, if_pos c3]
theorem ra_tb5 {ml n y : Int32} {k v h : Nat → Int32} (hl :  ml = 0) (hn : 1 ≤ n.toInt ∧ n.toInt ≤ 8) (hy : 1 + 5 * n.toInt ≤ y.toInt) (hy2 : y.toInt ≤ 50) : fn_X12_tapeAt ml n k v h y = -1 := by
  obtain ⟨z, ez⟩ : ∃ z : Int32, z = y - 2 := ⟨_, rfl⟩
  have e1 : z.toInt = y.toInt - 2 := by rw [ez, wk_sub y.toInt 2 rfl rfl (by omega) (by omega)]
  have e2 : (z / 5).toInt = z.toInt / 5 := wk_div (x := z) (y := 5) 5 rfl (by omega) (by decide)
  by_cases c : n ≤ z / 5
  · unfold fn_X12_tapeAt
    rw [← ez, if_pos (show (2 : Int32) ≤ y from Int32.le_iff_toInt_le.mpr (show 2 ≤ y.toInt by omega)), if_pos hl, if_pos c]
  · have kc := wk_nle c
    have e4 : (n - 1).toInt = n.toInt - 1 := wk_sub n.toInt 1 rfl rfl (by omega) (by omega)
    exact (ra_ta5 (x := n - 1) hl hn (by omega) 4 (by omega) (by omega)).2.2.2.2.2 rfl (by omega)
theorem ra_wr5L {lc : Nat} {ml n p1 p2 p3 p4 p5 : Int32} {k v h k' v' h' u0 u1 : Nat → Int32} (hl :  ml = 0) (ht : ¬ fn_law_tellsHeights lc = 0) (hn : 1 ≤ n.toInt ∧ n.toInt ≤ 8) (i1 : ra_ag ra_K n.toInt k k') (i2 : ra_ag ra_V n.toInt v v') (i3 : ra_ag ra_H n.toInt h h') : ∀ (fu : Nat) (x s : Int32) (c : Nat → Int32), 0 ≤ x.toInt → x.toInt ≤ n.toInt → n.toInt - x.toInt < (fu : Int) → s.toInt = 1 + 5 * x.toInt → (∀ y : Int32, 0 ≤ y.toInt → y.toInt < s.toInt → c y.toNatClampNeg = fn_X12_tapeAt ml n k' v' h' y) →
    ∃ (x2 s2 : Int32) (c2 : Nat → Int32), lp_X6_write_16 lc p1 u0 n k v h p2 p3 p4 u1 p5 fu x s c = (x2, s2, c2) ∧ s2.toInt = 1 + 5 * n.toInt ∧ (∀ y : Int32, 0 ≤ y.toInt → y.toInt < s2.toInt → c2 y.toNatClampNeg = fn_X12_tapeAt ml n k' v' h' y) := by
  intro fu
  induction fu with
  | zero => intro x s c g1 g2 g3; exfalso; omega
  | succ fu ih =>
    intro x s c g1 g2 g3 g4 g5
    rw [lp_X6_write_16]
    by_cases q : n ≤ x
    · have kq := wk_le q
      simp only [if_pos q]
      exact ⟨x, s, c, rfl, by omega, g5⟩
    · have kq := wk_nle q
      simp only [if_neg q]
      have e := ra_inc (x := x) (by omega) g1
      have s1 := ra_inc (x := s) (by omega) (by omega)
      have s2 := ra_inc (x := s + 1) (by omega) (by omega)
      have s3 := ra_inc (x := s + 1 + 1) (by omega) (by omega)
      have s4 := ra_inc (x := s + 1 + 1 + 1) (by omega) (by omega)
      have s5 := ra_inc (x := s + 1 + 1 + 1 + 1) (by omega) (by omega)
      rw [(ra_at i1 g1 (by omega)).1, (ra_at i2 g1 (by omega)).1, (ra_at i3 g1 (by omega)).1]
      have sep : fn_X12_tapeAt ml n k' v' h' s = if x = 0 then 59 else 44 := by
        by_cases w : x = 0
        · have kw : x.toInt = 0 := wk_eq w
          rw [if_pos w]
          unfold fn_X12_tapeAt
          rw [if_neg (show ¬ (2 : Int32) ≤ s from fun u => by have u1 : 2 ≤ s.toInt := wk_le u; omega), if_neg (show ¬ s = 0 from fun u => by have u1 : s.toInt = 0 := wk_eq u; omega)]
        · have kw : ¬ x.toInt = 0 := wk_neq w
          rw [if_neg w]
          have e9 : (x - 1).toInt = x.toInt - 1 := wk_sub x.toInt 1 rfl rfl (by omega) (by omega)
          exact (ra_ta5 (x := x - 1) hl hn (by omega) 4 (by omega) (by omega)).2.2.2.2.1 rfl (by omega)
      have t1 := (ra_ta5 (k := k') (v := v') (h := h') (x := x) (y := s + 1) hl hn (by omega) 0 (by omega) (by omega)).1 rfl
      have t2 := (ra_ta5 (k := k') (v := v') (h := h') (x := x) (y := s + 1 + 1) hl hn (by omega) 1 (by omega) (by omega)).2.1 rfl
      have t3 := (ra_ta5 (k := k') (v := v') (h := h') (x := x) (y := s + 1 + 1 + 1) hl hn (by omega) 2 (by omega) (by omega)).2.2.1 rfl
      have t4 := (ra_ta5 (k := k') (v := v') (h := h') (x := x) (y := s + 1 + 1 + 1 + 1) hl hn (by omega) 3 (by omega) (by omega)).2.2.2.1 ⟨rfl, rfl⟩
      by_cases w : x = 0
      · rw [if_pos w] at sep
        simp only [if_pos w]
        rw [ra_addE s _ _ (by omega)]
        simp only [ra_pm2]
        rw [ra_addE (s + 1) _ _ (by omega)]
        simp only [ra_pm2]
        rw [ra_addE (s + 1 + 1) _ _ (by omega)]
        simp only [ra_pm2]
        rw [ra_addE (s + 1 + 1 + 1) _ _ (by omega)]
        simp only [ra_pm2, if_neg ht]
        rw [ra_addE (s + 1 + 1 + 1 + 1) _ _ (by omega)]
        simp only [ra_pm2]
        refine ih (x + 1) _ _ (by omega) (by omega) (by omega) (by omega) ?_
        exact ra_wrS (ra_wrS (ra_wrS (ra_wrS (ra_wrS g5 (by omega) s1 sep) (by omega) s2 t1) (by omega) s3 t2) (by omega) s4 t3) (by omega) s5 t4
      · rw [if_neg w] at sep
        simp only [if_neg w]
        rw [ra_addE s _ _ (by omega)]
        simp only [ra_pm2]
        rw [ra_addE (s + 1) _ _ (by omega)]
        simp only [ra_pm2]
        rw [ra_addE (s + 1 + 1) _ _ (by omega)]
        simp only [ra_pm2]
        rw [ra_addE (s + 1 + 1 + 1) _ _ (by omega)]
        simp only [ra_pm2, if_neg ht]
        rw [ra_addE (s + 1 + 1 + 1 + 1) _ _ (by omega)]
        simp only [ra_pm2]
        refine ih (x + 1) _ _ (by omega) (by omega) (by omega) (by omega) ?_
        exact ra_wrS (ra_wrS (ra_wrS (ra_wrS (ra_wrS g5 (by omega) s1 sep) (by omega) s2 t1) (by omega) s3 t2) (by omega) s4 t3) (by omega) s5 t4
theorem re_tape_R {cl lc : Nat} {x_rowsRead : Int32} {x_rowOfImage : Int32} {x_bestsDone : Int32} {nw_asked : Int32} {nw_looksOfAsked : Int32} {nw_changes : Int32} {nwf_size : Int32} {nwfk_a : Nat → Int32} {nwfv_a : Nat → Int32} {nwfh_a : Nat → Int32} {nwft_a : Nat → Int32} {nws_size : Int32} {nwsk_a : Nat → Int32} {nwsv_a : Nat → Int32} {nwsh_a : Nat → Int32} {nwst_a : Nat → Int32} {nwe_size : Int32} {kp_asked : Int32} {kp_looksOfAsked : Int32} {kp_changes : Int32} {kpf_size : Int32} {kpfk_a : Nat → Int32} {kpfv_a : Nat → Int32} {kpfh_a : Nat → Int32} {kpft_a : Nat → Int32} {kps_size : Int32} {kpsk_a : Nat → Int32} {kpsv_a : Nat → Int32} {kpsh_a : Nat → Int32} {kpst_a : Nat → Int32} {kpe_size : Int32} {mo_law : Int32} {mo_many : Int32} {mo_asked : Int32} {mo_looksAll : Int32} {mo_changes : Int32} {mo_rowsRead : Int32} {mo_secondMany : Int32} {mo_seenMany : Int32} {mo_bestsDone : Int32} {mo_keptRow : Int32} {mo_keptMany : Int32} {mo_keptSecond : Int32} {mo_keptAsked : Int32} {mo_keptLooks : Int32} {mo_keptChanges : Int32} {mo_keptSeen : Int32} {mkeys_a : Nat → Int32} {mvalues_a : Nat → Int32} {mheights_a : Nat → Int32} {mheats_a : Nat → Int32} {msecondKeys_a : Nat → Int32} {msecondValues_a : Nat → Int32} {msecondHeights_a : Nat → Int32} {msecondHeats_a : Nat → Int32} {mkeptKeys_a : Nat → Int32} {mkeptValues_a : Nat → Int32} {mkeptHeights_a : Nat → Int32} {mkeptHeats_a : Nat → Int32} {mkeptKeys2_a : Nat → Int32} {mkeptValues2_a : Nat → Int32} {mkeptHeights2_a : Nat → Int32} {mkeptHeats2_a : Nat → Int32} {wr_size : Int32} {wrc_a : Nat → Int32} {a : Int32} {n_wr_size : Int32} {n_wrc_a : Nat → Int32} {r : Int32} (hR : re_R cl lc x_rowsRead x_rowOfImage x_bestsDone nw_asked nw_looksOfAsked nw_changes nwf_size nwfk_a nwfv_a nwfh_a nwft_a nws_size nwsk_a nwsv_a nwsh_a nwst_a nwe_size kp_asked kp_looksOfAsked kp_changes kpf_size kpfk_a kpfv_a kpfh_a kpft_a kps_size kpsk_a kpsv_a kpsh_a kpst_a kpe_size mo_law mo_many mo_asked mo_looksAll mo_changes mo_rowsRead mo_secondMany mo_seenMany mo_bestsDone mo_keptRow mo_keptMany mo_keptSecond mo_keptAsked mo_keptLooks mo_keptChanges mo_keptSeen mkeys_a mvalues_a mheights_a mheats_a msecondKeys_a msecondValues_a msecondHeights_a msecondHeats_a mkeptKeys_a mkeptValues_a mkeptHeights_a mkeptHeats_a mkeptKeys2_a mkeptValues2_a mkeptHeights2_a mkeptHeats2_a) (e1 : (r, n_wr_size, n_wrc_a) = fn_X11_tape_R lc wr_size wrc_a nwf_size nwfk_a nwfv_a nwfh_a a) : r = (fn_X12_tape mo_law mo_many mkeys_a mvalues_a mheights_a a) ∧ re_R (cl + 1) lc x_rowsRead x_rowOfImage x_bestsDone nw_asked nw_looksOfAsked nw_changes nwf_size nwfk_a nwfv_a nwfh_a nwft_a nws_size nwsk_a nwsv_a nwsh_a nwst_a nwe_size kp_asked kp_looksOfAsked kp_changes kpf_size kpfk_a kpfv_a kpfh_a kpft_a kps_size kpsk_a kpsv_a kpsh_a kpst_a kpe_size mo_law mo_many mo_asked mo_looksAll mo_changes mo_rowsRead mo_secondMany mo_seenMany mo_bestsDone mo_keptRow mo_keptMany mo_keptSecond mo_keptAsked mo_keptLooks mo_keptChanges mo_keptSeen mkeys_a mvalues_a mheights_a mheats_a msecondKeys_a msecondValues_a msecondHeights_a msecondHeats_a mkeptKeys_a mkeptValues_a mkeptHeights_a mkeptHeats_a mkeptKeys2_a mkeptValues2_a mkeptHeights2_a mkeptHeats2_a := by
  have hU9 := re_upR hR
  obtain ⟨⟨b1, ⟨q1, q2, q3, q4, q5⟩, hT, hU, b5⟩, hk, hn, hr⟩ := hR
  obtain rfl := hT.1
  obtain rfl := hU.1
  obtain ⟨-, hn8, i1, i2, i3, i4⟩ := id hT
  have z : (0 : Int32).toInt = 0 := rfl
  have z1 : (0 + 1 : Int32).toInt = 1 := rfl
  unfold fn_X11_tape_R at e1
  unfold fn_X12_tape
  rcases ra_in (a := a) (lo := 0) (hi := 50) 0 50 rfl rfl with ⟨a1, a2, a3⟩ | ⟨a1, a2⟩
  · rw [if_neg (show ¬ a < 0 from fun q => by have q1 : a.toInt < 0 := wk_lt q; omega), if_pos (show a ≤ 50 from Int32.le_iff_toInt_le.mpr a2)] at e1
    rw [if_neg a3, if_pos (ra_lacks (n := nwf_size) (by omega))]
    have es : fn_law_sign lc = fn_X12_signOf mo_law := by
      rcases hk with ⟨rfl, rfl⟩ | ⟨rfl, rfl⟩ | ⟨rfl, rfl⟩ | ⟨rfl, rfl⟩ | ⟨rfl, rfl⟩ <;> decide
    have g0 : ∀ y : Int32, 0 ≤ y.toInt → y.toInt < (0 + 1 : Int32).toInt → upd wrc_a (0 : Int32).toNatClampNeg (fn_law_sign lc) y.toNatClampNeg = fn_X12_tapeAt mo_law nwf_size mkeys_a mvalues_a mheights_a y := by
      intro y h1 h2
      have ey : y = 0 := Int32.toInt_inj.mp (show y.toInt = 0 by omega)
      rw [ey, ra_ua, es]
      unfold fn_X12_tapeAt
      rw [if_neg (show ¬ (2 : Int32) ≤ 0 by decide), if_pos rfl]
    have hlt : (¬ mo_law = 0 ∧ fn_law_tellsHeights lc = 0) ∨ (mo_law = 0 ∧ ¬ fn_law_tellsHeights lc = 0) := by
      rcases hk with ⟨rfl, rfl⟩ | ⟨rfl, rfl⟩ | ⟨rfl, rfl⟩ | ⟨rfl, rfl⟩ | ⟨rfl, rfl⟩ <;> decide
    rcases hlt with ⟨hl, ht⟩ | ⟨hl, ht⟩
    · obtain ⟨x2, s2, c2, f1, f2, f3⟩ := ra_wr4L (lc := lc) (ml := mo_law) (p1 := wr_size) (p2 := 0) (p3 := wr_size) (p4 := 0 + 1) (p5 := 0 + 1) (u0 := wrc_a) (u1 := upd wrc_a (0 : Int32).toNatClampNeg (fn_law_sign lc)) hl ht (by omega) i1 i2 i3 10 0 (0 + 1) (upd wrc_a (0 : Int32).toNatClampNeg (fn_law_sign lc)) (by omega) (by omega) (by omega) (by omega) g0
      have ew : fn_X6_write lc wr_size wrc_a nwf_size nwfk_a nwfv_a nwfh_a = (s2, c2) := by
        unfold fn_X6_write fn_X6_clear
        rw [ra_pm2]
        rw [ra_addE 0 _ _ (by omega)]
        simp only [ra_pm2]
        rw [f1]
      rw [ew] at e1
      simp only [ra_pm2] at e1
      by_cases cA : s2 ≤ a
      · have kA := wk_le cA
        rw [if_pos cA] at e1
        rw [ra_tb4 (y := a) hl (by omega) (by omega) (by omega)]
        cases e1
        exact ⟨rfl, hU9⟩
      · have kA := wk_nle cA
        rw [if_neg cA, f3 a (by omega) (by omega)] at e1
        cases e1
        exact ⟨rfl, hU9⟩
    · obtain ⟨x2, s2, c2, f1, f2, f3⟩ := ra_wr5L (lc := lc) (ml := mo_law) (p1 := wr_size) (p2 := 0) (p3 := wr_size) (p4 := 0 + 1) (p5 := 0 + 1) (u0 := wrc_a) (u1 := upd wrc_a (0 : Int32).toNatClampNeg (fn_law_sign lc)) hl ht (by omega) i1 i2 i3 10 0 (0 + 1) (upd wrc_a (0 : Int32).toNatClampNeg (fn_law_sign lc)) (by omega) (by omega) (by omega) (by omega) g0
      have ew : fn_X6_write lc wr_size wrc_a nwf_size nwfk_a nwfv_a nwfh_a = (s2, c2) := by
        unfold fn_X6_write fn_X6_clear
        rw [ra_pm2]
        rw [ra_addE 0 _ _ (by omega)]
        simp only [ra_pm2]
        rw [f1]
      rw [ew] at e1
      simp only [ra_pm2] at e1
      by_cases cA : s2 ≤ a
      · have kA := wk_le cA
        rw [if_pos cA] at e1
        rw [ra_tb5 (y := a) hl (by omega) (by omega) (by omega)]
        cases e1
        exact ⟨rfl, hU9⟩
      · have kA := wk_nle cA
        rw [if_neg cA, f3 a (by omega) (by omega)] at e1
        cases e1
        exact ⟨rfl, hU9⟩
  · rw [if_pos a2]
    by_cases cD : a < 0
    · rw [if_pos cD] at e1
      cases e1
      exact ⟨rfl, hU9⟩
    · have kD : ¬ a.toInt < 0 := wk_nlt cD
      rw [if_neg cD, if_neg (show ¬ a ≤ 50 from fun q => by have q1 : a.toInt ≤ 50 := wk_le q; omega)] at e1
      cases e1
      exact ⟨rfl, hU9⟩
theorem re_tape_N {cl : Nat} {x_rowsRead : Int32} {x_rowOfImage : Int32} {x_bestsDone : Int32} {nw_asked : Int32} {nw_looksOfAsked : Int32} {nw_changes : Int32} {nwf_size : Int32} {nwfk_a : Nat → Int32} {nwfv_a : Nat → Int32} {nwfh_a : Nat → Int32} {nwft_a : Nat → Int32} {nws_size : Int32} {nwsk_a : Nat → Int32} {nwsv_a : Nat → Int32} {nwsh_a : Nat → Int32} {nwst_a : Nat → Int32} {nwe_size : Int32} {kp_asked : Int32} {kp_looksOfAsked : Int32} {kp_changes : Int32} {kpf_size : Int32} {kpfk_a : Nat → Int32} {kpfv_a : Nat → Int32} {kpfh_a : Nat → Int32} {kpft_a : Nat → Int32} {kps_size : Int32} {kpsk_a : Nat → Int32} {kpsv_a : Nat → Int32} {kpsh_a : Nat → Int32} {kpst_a : Nat → Int32} {kpe_size : Int32} {mo_law : Int32} {mo_many : Int32} {mo_asked : Int32} {mo_looksAll : Int32} {mo_changes : Int32} {mo_rowsRead : Int32} {mo_secondMany : Int32} {mo_seenMany : Int32} {mo_bestsDone : Int32} {mo_keptRow : Int32} {mo_keptMany : Int32} {mo_keptSecond : Int32} {mo_keptAsked : Int32} {mo_keptLooks : Int32} {mo_keptChanges : Int32} {mo_keptSeen : Int32} {mkeys_a : Nat → Int32} {mvalues_a : Nat → Int32} {mheights_a : Nat → Int32} {mheats_a : Nat → Int32} {msecondKeys_a : Nat → Int32} {msecondValues_a : Nat → Int32} {msecondHeights_a : Nat → Int32} {msecondHeats_a : Nat → Int32} {mkeptKeys_a : Nat → Int32} {mkeptValues_a : Nat → Int32} {mkeptHeights_a : Nat → Int32} {mkeptHeats_a : Nat → Int32} {mkeptKeys2_a : Nat → Int32} {mkeptValues2_a : Nat → Int32} {mkeptHeights2_a : Nat → Int32} {mkeptHeats2_a : Nat → Int32} {a : Int32}   (hR : re_N cl x_rowsRead x_rowOfImage x_bestsDone nw_asked nw_looksOfAsked nw_changes nwf_size nwfk_a nwfv_a nwfh_a nwft_a nws_size nwsk_a nwsv_a nwsh_a nwst_a nwe_size kp_asked kp_looksOfAsked kp_changes kpf_size kpfk_a kpfv_a kpfh_a kpft_a kps_size kpsk_a kpsv_a kpsh_a kpst_a kpe_size mo_law mo_many mo_asked mo_looksAll mo_changes mo_rowsRead mo_secondMany mo_seenMany mo_bestsDone mo_keptRow mo_keptMany mo_keptSecond mo_keptAsked mo_keptLooks mo_keptChanges mo_keptSeen mkeys_a mvalues_a mheights_a mheats_a msecondKeys_a msecondValues_a msecondHeights_a msecondHeats_a mkeptKeys_a mkeptValues_a mkeptHeights_a mkeptHeats_a mkeptKeys2_a mkeptValues2_a mkeptHeights2_a mkeptHeats2_a)  : (fn_X11_tape_N a) = (fn_X12_tape mo_law mo_many mkeys_a mvalues_a mheights_a a) ∧ re_N (cl + 1) x_rowsRead x_rowOfImage x_bestsDone nw_asked nw_looksOfAsked nw_changes nwf_size nwfk_a nwfv_a nwfh_a nwft_a nws_size nwsk_a nwsv_a nwsh_a nwst_a nwe_size kp_asked kp_looksOfAsked kp_changes kpf_size kpfk_a kpfv_a kpfh_a kpft_a kps_size kpsk_a kpsv_a kpsh_a kpst_a kpe_size mo_law mo_many mo_asked mo_looksAll mo_changes mo_rowsRead mo_secondMany mo_seenMany mo_bestsDone mo_keptRow mo_keptMany mo_keptSecond mo_keptAsked mo_keptLooks mo_keptChanges mo_keptSeen mkeys_a mvalues_a mheights_a mheats_a msecondKeys_a msecondValues_a msecondHeights_a msecondHeats_a mkeptKeys_a mkeptValues_a mkeptHeights_a mkeptHeats_a mkeptKeys2_a mkeptValues2_a mkeptHeights2_a mkeptHeats2_a := by
  have hU9 := re_upN hR
  obtain ⟨⟨b1, ⟨q1, q2, q3, q4, q5⟩, hT, hU, b5⟩, hn, hs, hr, hi⟩ := hR
  obtain rfl := hT.1
  obtain rfl := hU.1
  subst hn
  refine ⟨?_, hU9⟩
  unfold fn_X11_tape_N fn_X12_tape
  rcases ra_in (a := a) (lo := 0) (hi := 50) 0 50 rfl rfl with ⟨a1, a2, a3⟩ | ⟨a1, a2⟩
  · rw [if_neg (show ¬ a < 0 from fun q => by have q1 : a.toInt < 0 := wk_lt q; omega), if_pos (show a ≤ 50 from Int32.le_iff_toInt_le.mpr a2), if_neg a3, if_neg re_lk0]
  · rw [if_pos a2]
    by_cases cD : a < 0
    · rw [if_pos cD]
    · have kD : ¬ a.toInt < 0 := wk_nlt cD
      rw [if_neg cD, if_neg (show ¬ a ≤ 50 from fun q => by have q1 : a.toInt ≤ 50 := wk_le q; omega)]
