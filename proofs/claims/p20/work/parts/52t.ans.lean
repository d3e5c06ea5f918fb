theorem ra_cosL {n a1 a2 a3 b1 b2 b3 : Int32} {k h t k' h' t' : Nat → Int32} (hn : 0 ≤ n.toInt ∧ n.toInt ≤ 8) (i1 : ra_ag ra_K n.toInt k k') (i3 : ra_ag ra_H n.toInt h h') (i4 : ra_ag ra_K n.toInt t t') : ∀ (fu : Nat) (s x w1 w2 w3 m1 m2 m3 : Int32), 0 ≤ x.toInt → (lp_X9_costOf_5 a1 a2 a3 n k t h fu s x w1 w2 w3).1 = (lp_X12_costOf_4 n b1 b2 b3 k' h' t' fu s x m1 m2 m3).1 := by
  intro fu
  induction fu with
  | zero => intro s x w1 w2 w3 m1 m2 m3 hx; rw [lp_X9_costOf_5, lp_X12_costOf_4]
  | succ fu ih =>
    intro s x w1 w2 w3 m1 m2 m3 hx
    rw [lp_X9_costOf_5, lp_X12_costOf_4]
    by_cases c : n ≤ x
    · simp only [if_pos c]
    · simp only [if_neg c]
      have kx := wk_nle c
      have h0 : 0 ≤ (x + 1).toInt := by rw [ra_inc (by omega) hx]; omega
      obtain ⟨t1, t2⟩ := ra_at i4 hx (by omega)
      have t3 : 0 ≤ (t x.toNatClampNeg).toInt ∧ (t x.toNatClampNeg).toInt ≤ 99 := t2
      obtain ⟨F, L, S, q1, q2, q3⟩ := ra_go hn i1 i3 w1 w2 w3 m1 m2 m3 (k' x.toNatClampNeg)
      unfold fn_X12_looksFor
      rw [(ra_at i1 hx (by omega)).1, q1, q2]
      simp only [ra_pm2]
      rw [t1] at t3
      rw [t1]
      by_cases d : t' x.toNatClampNeg ≤ 0
      · have kd : (t' x.toNatClampNeg).toInt ≤ 0 := wk_le d
        have e0 : t' x.toNatClampNeg = 0 := Int32.toInt_inj.mp (show _ = (0 : Int) by omega)
        rw [if_pos d, e0, Int32.zero_mul, Int32.add_zero]
        exact ih _ _ _ _ _ _ _ _ h0
      · rw [if_neg d]
        exact ih _ _ _ _ _ _ _ _ h0
theorem ra_cos {n w1 w2 w3 m1 m2 m3 : Int32} {k h t k' h' t' : Nat → Int32} (hn : 0 ≤ n.toInt ∧ n.toInt ≤ 8) (i1 : ra_ag ra_K n.toInt k k') (i3 : ra_ag ra_H n.toInt h h') (i4 : ra_ag ra_K n.toInt t t') : (fn_X9_costOf w1 w2 w3 n k t h).1 = (fn_X12_costOf n m1 m2 m3 k' h' t').1 := by
  unfold fn_X9_costOf fn_X12_costOf
  simp only [ra_pm2]
  exact ra_cosL hn i1 i3 i4 10 0 0 w1 w2 w3 m1 m2 m3 (by decide)
theorem ra_lkL {P : Int32 → Prop} {n : Int32} {f g : Nat → Int32} (h : ra_ag P n.toInt f g) (hn : n.toInt ≤ 8) : ∀ (fu : Nat) (s x : Int32), 0 ≤ x.toInt → lp_X8_linksOf_4 n f fu s x = lp_X12_linksOf_4 n g fu s x := by
  intro fu
  induction fu with
  | zero => intro s x hx; rw [lp_X8_linksOf_4, lp_X12_linksOf_4]
  | succ fu ih =>
    intro s x hx
    rw [lp_X8_linksOf_4, lp_X12_linksOf_4]
    by_cases c : n ≤ x
    · simp only [if_pos c]
    · simp only [if_neg c]
      have kx := wk_nle c
      rw [(ra_at h hx (by omega)).1]
      exact ih _ _ (by rw [ra_inc (by omega) hx]; omega)
theorem ra_chL {n : Int32} {f g u0 : Nat → Int32} (h : ra_ag ra_H n.toInt f g) (hn : n.toInt ≤ 8) : ∀ (fu : Nat) (x : Int32) (A : Nat → Int32), 0 ≤ x.toInt → x.toInt ≤ n.toInt → n.toInt - x.toInt < (fu : Int) → ra_ag ra_H x.toInt A g → ra_ag ra_H n.toInt (lp_X9_copyHeights_2 n f u0 fu x A).2 g := by
  intro fu
  induction fu with
  | zero => intro x A h1 h2 h3; exfalso; omega
  | succ fu ih =>
    intro x A h1 h2 h3 h4
    rw [lp_X9_copyHeights_2]
    by_cases c : n ≤ x
    · have kx := wk_le c
      simp only [if_pos c]
      exact ra_less h4 (by omega)
    · have kx := wk_nle c
      simp only [if_neg c]
      have e := ra_inc (x := x) (by omega) h1
      obtain ⟨a1, a2⟩ := ra_at h h1 (by omega)
      have u1 := ra_snoc h4 (ra_ix (x := x) h1) e a1 a2
      rw [wk_upds] at u1
      exact ih (x + 1) _ (by omega) (by omega) (by omega) u1
theorem ra_ch {n : Int32} {f g A : Nat → Int32} (h : ra_ag ra_H n.toInt f g) (hn : 0 ≤ n.toInt ∧ n.toInt ≤ 8) : ra_ag ra_H n.toInt (fn_X9_copyHeights n f A) g := by
  have z : (0 : Int32).toInt = 0 := rfl
  unfold fn_X9_copyHeights
  rw [ra_pm2]
  exact ra_chL h hn.2 10 0 A (by omega) (by omega) (by omega) (ra_nil (by omega))
theorem ra_lkB {n : Int32} {k' h' : Nat → Int32} (hn : n.toInt ≤ 8) {m1 m2 m3 a1 b1 q : Int32} : ∀ (fv : Nat) (x lv f lk ln : Int32), (-1 ≤ x.toInt ∧ x.toInt ≤ 7) → (-1 ≤ lv.toInt ∧ lv.toInt ≤ 3) → 0 ≤ lk.toInt → lk.toInt + 5 * (7 - x.toInt) + (lv.toInt + 1) ≤ 1000 → 5 * (7 - x.toInt) + (lv.toInt + 1) + 1 < (fv : Int) → 
    lk.toInt ≤ (lp_X12_look_21 n m1 m2 m3 k' h' a1 b1 q 0 fv x lv f lk ln).2.2.2.1.toInt ∧ (lp_X12_look_21 n m1 m2 m3 k' h' a1 b1 q 0 fv x lv f lk ln).2.2.2.1.toInt ≤ lk.toInt + 5 * (7 - x.toInt) + (lv.toInt + 1) := by
  intro fv
  induction fv with
  | zero => intro x lv f lk ln h1 h2 h3 h4 h5; exfalso; omega
  | succ fv ih =>
    intro x lv f lk ln h1 h2 h3 h4 h5
    rw [lp_X12_look_21]
    by_cases c2 : lv < 0
    · simp only [if_pos c2]
      have k2 : lv.toInt < 0 := wk_lt c2
      exact ⟨Int.le_refl _, by omega⟩
    · have k2 : ¬ lv.toInt < 0 := wk_nlt c2
      simp only [if_neg c2]
      by_cases cf : f = -1
      · simp only [if_pos cf]
        have e1 := ra_dec (x := lv) (by omega)
        have e0 : (lk + 0).toInt = lk.toInt := by rw [wk_add lk.toInt 0 rfl rfl (by omega) (by omega)]; omega
        have e2 := ra_inc (x := lk) (by omega) h3
        have hr := ra_nxR (n := n) (g := h') hn (x := x) (b := lv) (by omega)
        obtain ⟨y, ey⟩ : ∃ y : Int32, y = fn_X12_nextIn n h' x lv := ⟨_, rfl⟩
        rw [← ey]
        rw [← ey] at hr
        by_cases c3 : y = -1
        · simp only [if_pos c3]
          have h9 := ih x (lv + (-1)) f (lk + 0) ln h1 (by omega) (by omega) (by omega) (by omega)
          omega
        · simp only [if_neg c3]
          obtain ⟨r1, r2, r3⟩ := hr.resolve_left c3
          by_cases c4 : k' y.toNatClampNeg = q
          · simp only [if_pos c4]
            obtain ⟨fx, rfl⟩ : ∃ fx, fv = fx + 1 := ⟨fv - 1, by omega⟩
            rw [lp_X12_look_21]
            simp only [if_neg c2, if_neg c3]
            omega
          · simp only [if_neg c4]
            by_cases c5 : q ≤ k' y.toNatClampNeg
            · simp only [if_pos c5]
              have h9 := ih x (lv + (-1)) f (lk + 1) ln h1 (by omega) (by omega) (by omega) (by omega)
              omega
            · simp only [if_neg c5, ite_true]
              have h9 := ih y lv f (lk + 1) ln (by omega) h2 (by omega) (by omega) (by omega)
              omega
      · simp only [if_neg cf]
        omega
theorem ra_lfB {n : Int32} {h k' h' : Nat → Int32} (hn : 0 ≤ n.toInt ∧ n.toInt ≤ 8) (i3 : ra_ag ra_H n.toInt h h') (m1 m2 m3 q : Int32) : 0 ≤ (fn_X12_lookFor n m1 m2 m3 k' h' q).2.1.toInt ∧ (fn_X12_lookFor n m1 m2 m3 k' h' q).2.1.toInt ≤ 100 := by
  have hl := ra_laR i3 hn.2
  have z : (0 : Int32).toInt = 0 := rfl
  have z1 : (-1 : Int32).toInt = -1 := rfl
  have e : (fn_X12_lanes n h' - 1).toInt = (fn_X12_lanes n h').toInt - 1 := wk_sub _ 1 rfl rfl (by omega) (by omega)
  unfold fn_X12_lookFor fn_X12_look
  simp only [ra_pm2]
  have h9 := ra_lkB (n := n) (k' := k') (h' := h') hn.2 (m1 := m1) (m2 := m2) (m3 := m3) (a1 := -1) (b1 := fn_X12_lanes n h' - 1) (q := q) 42949672960 (-1) (fn_X12_lanes n h' - 1) (-1) 0 (-1) (by omega) (by omega) (by omega) (by omega) (by omega)
  omega
theorem ra_coB {n b1 b2 b3 : Int32} {h t k' h' t' : Nat → Int32} (hn : 0 ≤ n.toInt ∧ n.toInt ≤ 8) (i3 : ra_ag ra_H n.toInt h h') (i4 : ra_ag ra_K n.toInt t t') : ∀ (fu : Nat) (s x m1 m2 m3 : Int32), 0 ≤ x.toInt → x.toInt ≤ n.toInt → n.toInt - x.toInt < (fu : Int) → 0 ≤ s.toInt → s.toInt ≤ 10000 * x.toInt → 0 ≤ (lp_X12_costOf_4 n b1 b2 b3 k' h' t' fu s x m1 m2 m3).1.toInt := by
  intro fu
  induction fu with
  | zero => intro s x m1 m2 m3 h1 h2 h3; exfalso; omega
  | succ fu ih =>
    intro s x m1 m2 m3 h1 h2 h3 h4 h5
    rw [lp_X12_costOf_4]
    by_cases c : n ≤ x
    · simp only [if_pos c]; exact h4
    · simp only [if_neg c]
      have kx := wk_nle c
      have e := ra_inc (x := x) (by omega) h1
      obtain ⟨t1, t2⟩ := ra_at i4 h1 (by omega)
      have t3 : 0 ≤ (t x.toNatClampNeg).toInt ∧ (t x.toNatClampNeg).toInt ≤ 99 := t2
      rw [t1] at t3
      have hb := ra_lfB (k' := k') hn i3 m1 m2 m3 (k' x.toNatClampNeg)
      unfold fn_X12_looksFor
      simp only [ra_pm2]
      obtain ⟨S, eS⟩ : ∃ S : Int32, S = (fn_X12_lookFor n m1 m2 m3 k' h' (k' x.toNatClampNeg)).2.1 := ⟨_, rfl⟩
      rw [← eS] at hb
      rw [← eS]
      obtain ⟨tt, et⟩ : ∃ tt : Int32, tt = t' x.toNatClampNeg := ⟨_, rfl⟩
      rw [← et] at t3
      rw [← et]
      have p0 : 0 ≤ tt.toInt * S.toInt := Int.mul_nonneg t3.1 hb.1
      have p1 : tt.toInt * S.toInt ≤ 99 * 100 := Int.mul_le_mul t3.2 hb.2 hb.1 (by decide)
      have em : (tt * S).toInt = tt.toInt * S.toInt := wk_mul _ _ rfl rfl (by omega) (by omega)
      have es : (s + tt * S).toInt = s.toInt + tt.toInt * S.toInt := wk_add _ _ rfl em (by omega) (by omega)
      exact ih _ (x + 1) _ _ _ (by omega) (by omega) (by omega) (by omega) (by omega)
theorem ra_coN {n m1 m2 m3 : Int32} {h t k' h' t' : Nat → Int32} (hn : 0 ≤ n.toInt ∧ n.toInt ≤ 8) (i3 : ra_ag ra_H n.toInt h h') (i4 : ra_ag ra_K n.toInt t t') : ¬ (fn_X12_costOf n m1 m2 m3 k' h' t').1 = -1 := by
  intro q
  have q1 : ((fn_X12_costOf n m1 m2 m3 k' h' t').1).toInt = -1 := wk_eq q
  have h9 := ra_coB (k' := k') (b1 := m1) (b2 := m2) (b3 := m3) hn i3 i4 10 0 0 m1 m2 m3 (by decide) hn.1 (by have z : (0 : Int32).toInt = 0 := rfl; omega) (by decide) (by decide)
  unfold fn_X12_costOf at q1
  simp only [ra_pm2] at q1
  omega
def ra_dg : Nat → Nat → (Nat → Int32) → Prop
  | 0, _, _ => True
  | m + 1, c, A => (A m).toInt = 1 + (c : Int) % 3 ∧ ra_dg m (c / 3) A
theorem ra_dgC : ∀ (m c : Nat) (A B : Nat → Int32), ra_dg m c A → (∀ i : Nat, i < m → A i = B i) → ra_dg m c B := by
  intro m
  induction m with
  | zero => intro c A B h e; trivial
  | succ m ih =>
    intro c A B h e
    exact ⟨by rw [← e m (by omega)]; exact h.1, ih _ A B h.2 (fun i hi => e i (by omega))⟩
theorem ra_dgU : ∀ (m c : Nat) (A B : Nat → Int32), ra_dg m c A → ra_dg m c B → ∀ i : Nat, i < m → A i = B i ∧ (1 ≤ (A i).toInt ∧ (A i).toInt ≤ 3) := by
  intro m
  induction m with
  | zero => intro c A B h e i hi; omega
  | succ m ih =>
    intro c A B h e i hi
    by_cases q : i = m
    · rw [q]
      have h1 := h.1
      have e1 := e.1
      exact ⟨Int32.toInt_inj.mp (by omega), by omega⟩
    · exact ih _ A B h.2 e.2 i (by omega)
theorem ra_nwL {a0 : Int32} {u0 : Nat → Int32} : ∀ (m c fu : Nat) (x : Int32) (A : Nat → Int32), m ≤ 8 → x.toInt = (m : Int) - 1 → m < fu → c < 3 ^ m → ra_dg m c A →
    (c + 1 < 3 ^ m ∧ ∃ B : Nat → Int32, lp_X9_nextWay_4 u0 a0 fu x A = (1, B) ∧ ra_dg m (c + 1) B ∧ ∀ i : Nat, m ≤ i → B i = A i) ∨ (¬ c + 1 < 3 ^ m ∧ ∃ B : Nat → Int32, lp_X9_nextWay_4 u0 a0 fu x A = (0, B)) := by
  intro m
  induction m with
  | zero =>
    intro c fu x A h0 h1 h2 h3 h4
    obtain ⟨fw, rfl⟩ : ∃ fw, fu = fw + 1 := ⟨fu - 1, by omega⟩
    rw [lp_X9_nextWay_4]
    simp only [if_pos (show x < 0 from Int32.lt_iff_toInt_lt.mpr (show x.toInt < 0 by omega))]
    exact Or.inr ⟨by have h9 : (3 : Nat) ^ 0 = 1 := rfl; omega, A, rfl⟩
  | succ m ih =>
    intro c fu x A h0 h1 h2 h3 h4
    obtain ⟨fw, rfl⟩ : ∃ fw, fu = fw + 1 := ⟨fu - 1, by omega⟩
    have ex := ra_ix (x := x) (by omega)
    have ix : x.toNatClampNeg = m := by omega
    have hp : (3 : Nat) ^ (m + 1) = 3 * 3 ^ m := by rw [Nat.pow_succ]; omega
    obtain ⟨a1, a2⟩ := h4
    rw [hp] at h3
    rw [hp]
    rw [lp_X9_nextWay_4]
    simp only [if_neg (show ¬ x < 0 from fun q => by have q1 : x.toInt < 0 := wk_lt q; omega), ix]
    by_cases c3 : (3 : Int32) ≤ A m
    · have k3 : 3 ≤ (A m).toInt := wk_le c3
      simp only [if_pos c3]
      have e1 := ra_dec (x := x) (by omega)
      have hd : ra_dg m (c / 3) (upd A m 1) := ra_dgC m _ A _ a2 (fun i hi => by rw [ra_un _ _ (show ¬ i = m by omega)])
      rcases ih (c / 3) fw (x + (-1)) (upd A m 1) (by omega) (by omega) (by omega) (by omega) hd with ⟨q1, B, q2, q3, q4⟩ | ⟨q1, B, q2⟩
      · refine Or.inl ⟨by omega, B, q2, ⟨?_, ?_⟩, ?_⟩
        · rw [q4 m (Nat.le_refl m), ra_ua]
          show (1 : Int) = _
          omega
        · rw [show (c + 1) / 3 = c / 3 + 1 by omega]
          exact q3
        · intro i hi
          rw [q4 i (by omega), ra_un _ _ (show ¬ i = m by omega)]
      · exact Or.inr ⟨by omega, B, q2⟩
    · have k3 : ¬ 3 ≤ (A m).toInt := wk_nle c3
      simp only [if_neg c3]
      have e1 : (A m + 1).toInt = (A m).toInt + 1 := wk_add _ 1 rfl rfl (by omega) (by omega)
      refine Or.inl ⟨by omega, upd A m (A m + 1), rfl, ⟨?_, ?_⟩, ?_⟩
      · rw [ra_ua, e1]
        omega
      · rw [show (c + 1) / 3 = c / 3 by omega]
        exact ra_dgC m _ A _ a2 (fun i hi => by rw [ra_un _ _ (show ¬ i = m by omega)])
      · intro i hi
        rw [ra_un _ _ (show ¬ i = m by omega)]
theorem ra_hdL {n z1 z2 z3 z4 z5 z6 z7 z8 z9 y1 y2 y3 y4 : Int32} {k' h' t' u1 u2 u3 u4 u5 : Nat → Int32} : ∀ (m c fu : Nat) (w x : Int32) (H : Nat → Int32), m ≤ 8 → x.toInt = (m : Int) - 1 → m < fu → w.toInt = (c : Int) → c < 2000 → ∃ (w2 x2 : Int32) (B : Nat → Int32), lp_X12_bestOf_62 n z1 z2 z3 k' h' t' u1 u2 z4 z5 u3 z6 z7 z8 z9 y1 y2 y3 y4 u4 u5 fu w x H = (w2, x2, B) ∧ ra_dg m c B ∧ ∀ i : Nat, m ≤ i → B i = H i := by
  intro m
  induction m with
  | zero =>
    intro c fu w x H h0 h1 h2 h3 h4
    obtain ⟨fw, rfl⟩ : ∃ fw, fu = fw + 1 := ⟨fu - 1, by omega⟩
    rw [lp_X12_bestOf_62]
    simp only [if_pos (show x < 0 from Int32.lt_iff_toInt_lt.mpr (show x.toInt < 0 by omega))]
    exact ⟨w, x, H, rfl, trivial, fun _ _ => rfl⟩
  | succ m ih =>
    intro c fu w x H h0 h1 h2 h3 h4
    obtain ⟨fw, rfl⟩ : ∃ fw, fu = fw + 1 := ⟨fu - 1, by omega⟩
    have ex := ra_ix (x := x) (by omega)
    have ix : x.toNatClampNeg = m := by omega
    rw [lp_X12_bestOf_62]
    simp only [if_neg (show ¬ x < 0 from fun q => by have q1 : x.toInt < 0 := wk_lt q; omega), ix]
    have e1 := ra_dec (x := x) (by omega)
    have e2 : (w / 3).toInt = w.toInt / 3 := wk_div 3 rfl (by omega) (by decide)
    have e3 : (w - w / 3 * 3).toInt = w.toInt % 3 := wk_rem 3 rfl (by omega) (by decide)
    have e4 : (1 + (w - w / 3 * 3)).toInt = 1 + w.toInt % 3 := wk_add 1 _ rfl e3 (by omega) (by omega)
    obtain ⟨w2, x2, B, q1, q2, q3⟩ := ih (c / 3) fw (w / 3) (x + (-1)) (upd H m (1 + (w - w / 3 * 3))) (by omega) (by omega) (by omega) (by omega) (by omega)
    refine ⟨w2, x2, B, q1, ⟨?_, q2⟩, ?_⟩
    · rw [q3 m (Nat.le_refl m), ra_ua]
      omega
    · intro i hi
      rw [q3 i (by omega), ra_un _ _ (show ¬ i = m by omega)]
theorem ra_cdL {n z1 z2 z3 a b : Int32} {k' h' t' u1 u2 u3 : Nat → Int32} (hn : n.toInt ≤ 6) : ∀ (fu : Nat) (p x : Int32), 0 ≤ x.toInt → x.toInt ≤ n.toInt → n.toInt - x.toInt < (fu : Int) → p.toInt = ((3 ^ x.toInt.toNat : Nat) : Int) → (lp_X12_bestOf_16 n z1 z2 z3 k' h' t' u1 u2 a b u3 fu p x).1.toInt = ((3 ^ n.toInt.toNat : Nat) : Int) := by
  intro fu
  induction fu with
  | zero => intro p x h1 h2 h3; exfalso; omega
  | succ fu ih =>
    intro p x h1 h2 h3 h4
    rw [lp_X12_bestOf_16]
    by_cases c : n ≤ x
    · have kc := wk_le c
      simp only [if_pos c]
      rw [h4, show x.toInt = n.toInt by omega]
    · have kc := wk_nle c
      simp only [if_neg c]
      have e := ra_inc (x := x) (by omega) h1
      have hb : (3 : Nat) ^ x.toInt.toNat ≤ 3 ^ 6 := Nat.pow_le_pow_right (by decide) (by omega)
      have hb2 : (3 : Nat) ^ 6 = 729 := by decide
      obtain ⟨q, eq⟩ : ∃ q : Nat, q = 3 ^ x.toInt.toNat := ⟨_, rfl⟩
      rw [← eq] at h4 hb
      have em : (p * 3).toInt = p.toInt * 3 := wk_mul _ 3 rfl rfl (by omega) (by omega)
      refine ih (p * 3) (x + 1) (by omega) (by omega) (by omega) ?_
      rw [em, show (x + 1).toInt.toNat = x.toInt.toNat + 1 by omega, Nat.pow_succ, ← eq, h4]
      omega
theorem ra_onL {n z1 z2 z3 z4 z5 a : Int32} {k t u0 u1 : Nat → Int32} (hn : 0 ≤ n.toInt ∧ n.toInt ≤ 8) : ∀ (fu : Nat) (x : Int32) (A : Nat → Int32), 0 ≤ x.toInt → x.toInt ≤ n.toInt → n.toInt - x.toInt < (fu : Int) → (∀ i : Nat, (i : Int) < x.toInt → A i = 1) → ∀ i : Nat, (i : Int) < n.toInt → (lp_X9_seekBest_12 z1 z2 z3 z4 z5 u0 u1 n k t a fu x A).2 i = 1 := by
  intro fu
  induction fu with
  | zero => intro x A h1 h2 h3; exfalso; omega
  | succ fu ih =>
    intro x A h1 h2 h3 h4 i hi
    rw [lp_X9_seekBest_12]
    by_cases c : n ≤ x
    · have kc := wk_le c
      simp only [if_pos c]
      exact h4 i (by omega)
    · have kc := wk_nle c
      simp only [if_neg c]
      have e := ra_inc (x := x) (by omega) h1
      have ix := ra_ix (x := x) h1
      refine ih (x + 1) _ (by omega) (by omega) (by omega) ?_ i hi
      intro j hj
      by_cases q : j = x.toNatClampNeg
      · rw [q, ra_ua]
      · rw [ra_un _ _ q]
        exact h4 j (by omega)
theorem ra_dg0 : ∀ (m : Nat) (A : Nat → Int32), (∀ i : Nat, i < m → A i = 1) → ra_dg m 0 A := by
  intro m
  induction m with
  | zero => intro A h; trivial
  | succ m ih => intro A h; exact ⟨by rw [h m (by omega)]; rfl, ih A (fun i hi => h i (by omega))⟩
theorem ra_bsL {n N z1 z2 z3 z4 z5 z6 y1 y2 y3 y5 a b : Int32} {m : Nat} {k t k' h' t' u0 u1 u2 u3 u4 u5 : Nat → Int32} (hm : n.toInt = (m : Int)) (h6 : m ≤ 6) (hN : N.toInt = ((3 ^ m : Nat) : Int)) (i1 : ra_ag ra_K n.toInt k k') (i4 : ra_ag ra_K n.toInt t t') : ∀ (fu fv c : Nat) (x code le li w1 w2 w3 m1 m2 m3 : Int32) (A B H C : Nat → Int32), code.toInt = (c : Int) → c ≤ 3 ^ m → 3 ^ m - c < fu → 3 ^ m - c < fv → (c < 3 ^ m ∧ x = 1 ∧ ra_dg m c A ∨ c = 3 ^ m ∧ x = 0) → (le = -1 ∧ li = -1 ∨ ¬ le = -1 ∧ ra_ag ra_H n.toInt B C) →
    ∃ (x2 c2 c3 le2 li2 p1 p2 p3 s1 s2 s3 : Int32) (A2 B2 H2 C2 : Nat → Int32), lp_X9_seekBest_38 z1 z2 z3 z4 z5 u0 u1 n k t a z6 u2 fu x code le li w1 w2 w3 A B = (x2, c2, le2, li2, p1, p2, p3, A2, B2) ∧ lp_X12_bestOf_44 n y1 y2 y3 k' h' t' u3 u4 a b u5 N y5 fv le li code m1 m2 m3 H C = (le2, li2, c3, s1, s2, s3, H2, C2) ∧ (le2 = -1 ∧ li2 = -1 ∨ ¬ le2 = -1 ∧ ra_ag ra_H n.toInt B2 C2) := by
  have hp : (3 : Nat) ^ m ≤ 3 ^ 6 := Nat.pow_le_pow_right (by decide) h6
  have hp2 : (3 : Nat) ^ 6 = 729 := by decide
  have hn8 : 0 ≤ n.toInt ∧ n.toInt ≤ 8 := by omega
  have e9 : (n - 1).toInt = n.toInt - 1 := wk_sub n.toInt 1 rfl rfl (by omega) (by omega)
  intro fu
  induction fu with
  | zero => intro fv c x code le li w1 w2 w3 m1 m2 m3 A B H C h1 h2 h3; exfalso; omega
  | succ fu ih =>
    intro fv c x code le li w1 w2 w3 m1 m2 m3 A B H C h1 h2 h3 h4 h5 h6'
    obtain ⟨fw, rfl⟩ : ∃ fw, fv = fw + 1 := ⟨fv - 1, by omega⟩
    rw [lp_X9_seekBest_38, lp_X12_bestOf_44]
    simp only [if_neg (show ¬ (1000 : Int32) ≤ code from fun q => by have q1 : 1000 ≤ code.toInt := wk_le q; omega)]
    rcases h5 with ⟨g1, rfl, g3⟩ | ⟨g1, rfl⟩
    · simp only [if_neg (show ¬ (1 : Int32) = 0 by decide), if_neg (show ¬ N ≤ code from fun q => by have q1 := wk_le q; omega)]
      obtain ⟨v2, v3, HB, q1, q2, q3⟩ := ra_hdL (n := n) (z1 := y1) (z2 := y2) (z3 := y3) (k' := k') (h' := h') (t' := t') (u1 := u3) (u2 := u4) (z4 := a) (z5 := b) (u3 := u5) (z6 := N) (z7 := y5) (z8 := le) (z9 := li) (y1 := code) (y2 := m1) (y3 := m2) (y4 := m3) (u4 := H) (u5 := C) m c 10 code (n - 1) H (by omega) (by omega) (by omega) h1 (by omega)
      have hu := ra_dgU m c A HB g3 q2
      have j3 : ra_ag ra_H n.toInt A HB := fun i hi => ⟨(hu i (by omega)).1, (hu i (by omega)).2.1, by have := (hu i (by omega)).2.2; omega⟩
      have el : fn_X8_linksOf n A = fn_X12_linksOf n HB := by unfold fn_X8_linksOf fn_X12_linksOf; rw [ra_lkL j3 hn8.2 10 0 0 (by decide)]
      have ec : (code + 1).toInt = code.toInt + 1 := wk_add _ 1 rfl rfl (by omega) (by omega)
      have hnw := ra_nwL (a0 := n) (u0 := A) m c 10 (n - 1) A (by omega) (by omega) (by omega) g1 g3
      have hway : ∃ (r : Int32) (D : Nat → Int32), fn_X9_nextWay A n = (r, D) ∧ (c + 1 < 3 ^ m ∧ r = 1 ∧ ra_dg m (c + 1) D ∨ c + 1 = 3 ^ m ∧ r = 0) := by
        unfold fn_X9_nextWay
        rcases hnw with ⟨o1, D, o2, o3, o4⟩ | ⟨o1, D, o2⟩
        · exact ⟨1, D, o2, Or.inl ⟨o1, rfl, o3⟩⟩
        · exact ⟨0, D, o2, Or.inr ⟨by omega, rfl⟩⟩
      obtain ⟨r, D, w0, w9⟩ := hway
      rw [q1, w0, el]
      simp only [ra_pm2, fn_X9_weigh]
      by_cases cl : fn_X12_linksOf n HB ≤ a
      · have kl := wk_le cl
        simp only [if_pos cl, if_neg (show ¬ a < fn_X12_linksOf n HB from fun q => by have q1 := wk_lt q; omega)]
        have hc := ra_cos (w1 := w1) (w2 := w2) (w3 := w3) (m1 := m1) (m2 := m2) (m3 := m3) hn8 i1 j3 i4
        have hcn := ra_coN (k' := k') (m1 := m1) (m2 := m2) (m3 := m3) hn8 j3 i4
        rw [hc]
        obtain ⟨r1, er1⟩ : ∃ r1 : Int32, r1 = (fn_X12_costOf n m1 m2 m3 k' HB t').1 := ⟨_, rfl⟩
        rw [← er1] at hcn
        rw [← er1]
        simp only [if_neg hcn]
        by_cases cm : le = -1
        · simp only [if_pos cm, ra_pm1]
          exact ih fw (c + 1) r (code + 1) _ _ _ _ _ _ _ _ D _ _ _ (by omega) (by omega) (by omega) (by omega) w9 (Or.inr ⟨hcn, ra_cpR hn8.2 (ra_ch j3 hn8)⟩)
        · simp only [if_neg cm, ra_pm1]
          by_cases cr : le ≤ r1
          · have kr := wk_le cr
            simp only [if_pos cr, if_neg (show ¬ r1 < le from fun q => by have q1 := wk_lt q; omega)]
            exact ih fw (c + 1) r (code + 1) _ _ _ _ _ _ _ _ D _ _ _ (by omega) (by omega) (by omega) (by omega) w9 h6'
          · have kr := wk_nle cr
            simp only [if_neg cr, if_pos (show r1 < le from Int32.lt_iff_toInt_lt.mpr (by omega))]
            exact ih fw (c + 1) r (code + 1) _ _ _ _ _ _ _ _ D _ _ _ (by omega) (by omega) (by omega) (by omega) w9 (Or.inr ⟨hcn, ra_cpR hn8.2 (ra_ch j3 hn8)⟩)
      · have kl := wk_nle cl
        simp only [if_neg cl, if_pos (show a < fn_X12_linksOf n HB from Int32.lt_iff_toInt_lt.mpr (by omega))]
        exact ih fw (c + 1) r (code + 1) _ _ _ _ _ _ _ _ D _ _ _ (by omega) (by omega) (by omega) (by omega) w9 h6'
    · simp only [if_pos (show (0 : Int32) = 0 from rfl), if_pos (show N ≤ code from Int32.le_iff_toInt_le.mpr (by omega))]
      exact ⟨0, code, code, le, li, w1, w2, w3, m1, m2, m3, A, B, H, C, rfl, rfl, h6'⟩
theorem ra_best {n a b z1 z2 w1 w2 w3 m1 m2 m3 : Int32} {k t k' h' t' A B u1 u2 : Nat → Int32} (hn : 2 ≤ n.toInt ∧ n.toInt ≤ 6) (i1 : ra_ag ra_K n.toInt k k') (i4 : ra_ag ra_K n.toInt t t') : ∃ (le li p1 p2 p3 : Int32) (A2 B2 C : Nat → Int32), fn_X9_seekBest z1 z2 w1 w2 w3 A B n k t a = (le, li, p1, p2, p3, A2, B2) ∧ (fn_X12_bestOf n m1 m2 m3 k' h' t' u1 u2 a b).1 = (if b ≤ 9 then (if b = 0 then le else li) else (if le = -1 then -1 else (if (b - 10) < n then C (b - 10).toNatClampNeg else -1))) ∧ (le = -1 ∧ li = -1 ∨ ¬ le = -1 ∧ ra_ag ra_H n.toInt B2 C) := by
  have z : (0 : Int32).toInt = 0 := rfl
  obtain ⟨m, em⟩ : ∃ m : Nat, n.toInt = (m : Int) := ⟨n.toInt.toNat, by omega⟩
  have hp : (3 : Nat) ^ m ≤ 3 ^ 6 := Nat.pow_le_pow_right (by decide) (by omega)
  have hp2 : (3 : Nat) ^ 6 = 729 := by decide
  have hp3 : 0 < (3 : Nat) ^ m := Nat.pow_pos (by decide)
  have hA := ra_onL (n := n) (z1 := z1) (z2 := z2) (z3 := w1) (z4 := w2) (z5 := w3) (a := a) (k := k) (t := t) (u0 := A) (u1 := B) (by omega) 10 0 A (by omega) (by omega) (by omega) (fun i hi => by omega)
  have hN := ra_cdL (n := n) (z1 := m1) (z2 := m2) (z3 := m3) (a := a) (b := b) (k' := k') (h' := h') (t' := t') (u1 := u1) (u2 := u2) (u3 := fn_X12_copy h' u1) hn.2 10 1 0 (by omega) (by omega) (by omega) (by rw [z]; rfl)
  rw [show n.toInt.toNat = m by omega] at hN
  unfold fn_X9_seekBest fn_X12_bestOf
  simp only [ra_pm1, ra_pm2]
  obtain ⟨A1, eA⟩ : ∃ A1 : Nat → Int32, A1 = (lp_X9_seekBest_12 z1 z2 w1 w2 w3 A B n k t a 10 0 A).2 := ⟨_, rfl⟩
  rw [← eA] at hA
  rw [← eA]
  obtain ⟨x2, c2, c3, le2, li2, p1, p2, p3, s1, s2, s3, A2, B2, H2, C2, q1, q2, q3⟩ := ra_bsL (n := n) (N := (lp_X12_bestOf_16 n m1 m2 m3 k' h' t' u1 u2 a b (fn_X12_copy h' u1) 10 1 0).1) (z1 := z1) (z2 := z2) (z3 := w1) (z4 := w2) (z5 := w3) (z6 := (lp_X9_seekBest_12 z1 z2 w1 w2 w3 A B n k t a 10 0 A).1) (y1 := m1) (y2 := m2) (y3 := m3) (y5 := (lp_X12_bestOf_16 n m1 m2 m3 k' h' t' u1 u2 a b (fn_X12_copy h' u1) 10 1 0).2) (a := a) (b := b) (m := m) (h' := h') (u0 := A) (u1 := B) (u2 := A1) (u3 := u1) (u4 := u2) (u5 := fn_X12_copy h' u1) em (by omega) hN i1 i4 1002 2147483649 0 1 0 (-1) (-1) w1 w2 w3 m1 m2 m3 A1 B h' u2 rfl (by omega) (by omega) (by omega) (Or.inl ⟨hp3, rfl, ra_dg0 m A1 (fun i hi => hA i (by omega))⟩) (Or.inl ⟨rfl, rfl⟩)
  rw [q1, q2]
  refine ⟨le2, li2, p1, p2, p3, A2, B2, C2, rfl, ?_, q3⟩
  by_cases c1 : b ≤ 9
  · simp only [if_pos c1]
    by_cases c2 : b = 0
    · simp only [if_pos c2]
    · simp only [if_neg c2]
  · simp only [if_neg c1]
    by_cases c2 : le2 = -1
    · simp only [if_pos c2]
    · simp only [if_neg c2]
      by_cases c3 : (b - 10) < n
      · simp only [if_pos c3]
      · simp only [if_neg c3]
theorem re_bestE_R {cl lc : Nat} {x_rowsRead : Int32} {x_rowOfImage : Int32} {x_bestsDone : Int32} {nw_asked : Int32} {nw_looksOfAsked : Int32} {nw_changes : Int32} {nwf_size : Int32} {nwfk_a : Nat → Int32} {nwfv_a : Nat → Int32} {nwfh_a : Nat → Int32} {nwft_a : Nat → Int32} {nws_size : Int32} {nwsk_a : Nat → Int32} {nwsv_a : Nat → Int32} {nwsh_a : Nat → Int32} {nwst_a : Nat → Int32} {nwe_size : Int32} {kp_asked : Int32} {kp_looksOfAsked : Int32} {kp_changes : Int32} {kpf_size : Int32} {kpfk_a : Nat → Int32} {kpfv_a : Nat → Int32} {kpfh_a : Nat → Int32} {kpft_a : Nat → Int32} {kps_size : Int32} {kpsk_a : Nat → Int32} {kpsv_a : Nat → Int32} {kpsh_a : Nat → Int32} {kpst_a : Nat → Int32} {kpe_size : Int32} {mo_law : Int32} {mo_many : Int32} {mo_asked : Int32} {mo_looksAll : Int32} {mo_changes : Int32} {mo_rowsRead : Int32} {mo_secondMany : Int32} {mo_seenMany : Int32} {mo_bestsDone : Int32} {mo_keptRow : Int32} {mo_keptMany : Int32} {mo_keptSecond : Int32} {mo_keptAsked : Int32} {mo_keptLooks : Int32} {mo_keptChanges : Int32} {mo_keptSeen : Int32} {mkeys_a : Nat → Int32} {mvalues_a : Nat → Int32} {mheights_a : Nat → Int32} {mheats_a : Nat → Int32} {msecondKeys_a : Nat → Int32} {msecondValues_a : Nat → Int32} {msecondHeights_a : Nat → Int32} {msecondHeats_a : Nat → Int32} {mkeptKeys_a : Nat → Int32} {mkeptValues_a : Nat → Int32} {mkeptHeights_a : Nat → Int32} {mkeptHeats_a : Nat → Int32} {mkeptKeys2_a : Nat → Int32} {mkeptValues2_a : Nat → Int32} {mkeptHeights2_a : Nat → Int32} {mkeptHeats2_a : Nat → Int32} {tr_least : Int32} {tr_bestLinks : Int32} {trw_number : Int32} {trw_lane : Int32} {trw_looks : Int32} {tra_a : Nat → Int32} {trb_a : Nat → Int32} {a : Int32} {b : Int32} {mo_foundAt : Int32} {mo_foundLooks : Int32} {mo_foundLane : Int32} {msaved_a : Nat → Int32} {mbestHeights_a : Nat → Int32} {n_x_bestsDone : Int32} {n_tr_least : Int32} {n_tr_bestLinks : Int32} {n_trw_number : Int32} {n_trw_lane : Int32} {n_trw_looks : Int32} {n_tra_a : Nat → Int32} {n_trb_a : Nat → Int32} {n_mo_foundAt : Int32} {n_mo_foundLooks : Int32} {n_mo_foundLane : Int32} {n_mo_bestsDone : Int32} {n_mheights_a : Nat → Int32} {n_msaved_a : Nat → Int32} {n_mbestHeights_a : Nat → Int32} {r r2 : Int32} (hR : re_R cl lc x_rowsRead x_rowOfImage x_bestsDone nw_asked nw_looksOfAsked nw_changes nwf_size nwfk_a nwfv_a nwfh_a nwft_a nws_size nwsk_a nwsv_a nwsh_a nwst_a nwe_size kp_asked kp_looksOfAsked kp_changes kpf_size kpfk_a kpfv_a kpfh_a kpft_a kps_size kpsk_a kpsv_a kpsh_a kpst_a kpe_size mo_law mo_many mo_asked mo_looksAll mo_changes mo_rowsRead mo_secondMany mo_seenMany mo_bestsDone mo_keptRow mo_keptMany mo_keptSecond mo_keptAsked mo_keptLooks mo_keptChanges mo_keptSeen mkeys_a mvalues_a mheights_a mheats_a msecondKeys_a msecondValues_a msecondHeights_a msecondHeats_a mkeptKeys_a mkeptValues_a mkeptHeights_a mkeptHeats_a mkeptKeys2_a mkeptValues2_a mkeptHeights2_a mkeptHeats2_a) (e1 : (r, n_x_bestsDone, n_tr_least, n_tr_bestLinks, n_trw_number, n_trw_lane, n_trw_looks, n_tra_a, n_trb_a) = fn_X11_best_R x_bestsDone nwf_size nwfk_a nwft_a tr_least tr_bestLinks trw_number trw_lane trw_looks tra_a trb_a a b) (e2 : (r2, n_mo_foundAt, n_mo_foundLooks, n_mo_foundLane, n_mo_bestsDone, n_mheights_a, n_msaved_a, n_mbestHeights_a) = fn_X12_best mo_many mo_foundAt mo_foundLooks mo_foundLane mo_bestsDone mkeys_a mheights_a mheats_a msaved_a mbestHeights_a a b) : r = r2 ∧ re_R (cl + 1) lc x_rowsRead x_rowOfImage n_x_bestsDone nw_asked nw_looksOfAsked nw_changes nwf_size nwfk_a nwfv_a nwfh_a nwft_a nws_size nwsk_a nwsv_a nwsh_a nwst_a nwe_size kp_asked kp_looksOfAsked kp_changes kpf_size kpfk_a kpfv_a kpfh_a kpft_a kps_size kpsk_a kpsv_a kpsh_a kpst_a kpe_size mo_law mo_many mo_asked mo_looksAll mo_changes mo_rowsRead mo_secondMany mo_seenMany n_mo_bestsDone mo_keptRow mo_keptMany mo_keptSecond mo_keptAsked mo_keptLooks mo_keptChanges mo_keptSeen mkeys_a mvalues_a n_mheights_a mheats_a msecondKeys_a msecondValues_a msecondHeights_a msecondHeats_a mkeptKeys_a mkeptValues_a mkeptHeights_a mkeptHeats_a mkeptKeys2_a mkeptValues2_a mkeptHeights2_a mkeptHeats2_a := by
  have hR9 := re_best_R hR e1 e2
  refine ⟨?_, hR9⟩
  clear hR9
  obtain ⟨⟨b1, ⟨q1, q2, q3, q4, q5⟩, hT, hU, b5⟩, hk, hn, hr⟩ := hR
  obtain rfl := hT.1
  obtain rfl := hU.1
  obtain ⟨-, hn8, i1, i2, i3, i4⟩ := id hT
  obtain ⟨d1, d2, d3, d4, d5, d6⟩ := b1
  have kd : x_bestsDone.toInt = mo_bestsDone.toInt := wk_eq d4
  unfold fn_X11_best_R at e1
  unfold fn_X12_best at e2
  rcases ra_in (a := a) (lo := 1) (hi := 18) 1 18 rfl rfl with ⟨a1, a2, a3⟩ | ⟨a1, a2⟩
  · have y1 : ¬ a < 1 := fun q => by have q1 : a.toInt < 1 := wk_lt q; omega
    have y2 : ¬ 18 < a := fun q => by have q1 : 18 < a.toInt := wk_lt q; omega
    simp only [if_neg y1, if_neg y2] at e1
    rw [if_neg a3] at e2
    rcases ra_in (a := b) (lo := 0) (hi := 1) 0 1 rfl rfl with ⟨u1, u2, u3⟩ | ⟨u1, u2⟩
    · have k9 : b ≤ 9 := Int32.le_iff_toInt_le.mpr (show b.toInt ≤ 9 by omega)
      rw [if_pos (show b < 10 from Int32.lt_iff_toInt_lt.mpr (show b.toInt < 10 by omega))] at e1
      rw [if_neg u3] at e2
      by_cases b0 : b = 0
      · simp only [if_pos b0] at e1
        have b9 : b.toInt = 0 := wk_eq b0
        rw [if_pos (ra_lacks (n := nwf_size) (by omega))] at e2
        by_cases c6 : (6 : Int32) < nwf_size
        · rw [if_pos c6] at e1 e2
          rw [(Prod.mk.inj e1).1, (Prod.mk.inj e2).1]
        · have k6 : ¬ 6 < nwf_size.toInt := wk_nlt c6
          rw [if_neg c6] at e1 e2
          by_cases c7 : x_bestsDone < 12
          · have k7 : x_bestsDone.toInt < 12 := wk_lt c7
            rw [if_pos c7] at e1
            rw [if_neg (show ¬ mo_bestsDone = 12 from fun q => by have q1 : mo_bestsDone.toInt = 12 := wk_eq q; omega)] at e2
            obtain ⟨le, li, p1, p2, p3, A2, B2, C, g1, g2, g3⟩ := ra_best (n := nwf_size) (a := a) (b := b) (z1 := tr_least) (z2 := tr_bestLinks) (w1 := trw_number) (w2 := trw_lane) (w3 := trw_looks) (m1 := mo_foundAt) (m2 := mo_foundLooks) (m3 := mo_foundLane) (h' := mheights_a) (A := tra_a) (B := trb_a) (u1 := msaved_a) (u2 := mbestHeights_a) ⟨hn, by omega⟩ i1 i4
            rw [g1] at e1
            simp only [ra_pm2] at e1 e2
            have f2 := (Prod.mk.inj e2).1
            rw [g2] at f2
            rw [f2]
            by_cases cL : le = -1
            · rw [if_pos cL] at e1
              rw [(Prod.mk.inj e1).1]
              rcases g3 with ⟨u1, u2⟩ | ⟨u1, u2⟩
              · rw [if_pos k9, u1, u2]
                rw [if_pos b0]
              · exact absurd cL u1
            · rw [if_neg cL] at e1
              rw [if_pos k9]
              rw [if_pos b0, (Prod.mk.inj e1).1]
          · have k7 : ¬ x_bestsDone.toInt < 12 := wk_nlt c7
            rw [if_neg c7] at e1
            rw [if_pos (show mo_bestsDone = 12 from Int32.toInt_inj.mp (show mo_bestsDone.toInt = 12 by omega))] at e2
            rw [(Prod.mk.inj e1).1, (Prod.mk.inj e2).1]
      · have b9 : ¬ b.toInt = 0 := wk_neq b0
        have b1 : b = 1 := Int32.toInt_inj.mp (show b.toInt = 1 by omega)
        simp only [if_neg b0, if_pos b1] at e1
        rw [if_pos (ra_lacks (n := nwf_size) (by omega))] at e2
        by_cases c6 : (6 : Int32) < nwf_size
        · rw [if_pos c6] at e1 e2
          rw [(Prod.mk.inj e1).1, (Prod.mk.inj e2).1]
        · have k6 : ¬ 6 < nwf_size.toInt := wk_nlt c6
          rw [if_neg c6] at e1 e2
          by_cases c7 : x_bestsDone < 12
          · have k7 : x_bestsDone.toInt < 12 := wk_lt c7
            rw [if_pos c7] at e1
            rw [if_neg (show ¬ mo_bestsDone = 12 from fun q => by have q1 : mo_bestsDone.toInt = 12 := wk_eq q; omega)] at e2
            obtain ⟨le, li, p1, p2, p3, A2, B2, C, g1, g2, g3⟩ := ra_best (n := nwf_size) (a := a) (b := b) (z1 := tr_least) (z2 := tr_bestLinks) (w1 := trw_number) (w2 := trw_lane) (w3 := trw_looks) (m1 := mo_foundAt) (m2 := mo_foundLooks) (m3 := mo_foundLane) (h' := mheights_a) (A := tra_a) (B := trb_a) (u1 := msaved_a) (u2 := mbestHeights_a) ⟨hn, by omega⟩ i1 i4
            rw [g1] at e1
            simp only [ra_pm2] at e1 e2
            have f2 := (Prod.mk.inj e2).1
            rw [g2] at f2
            rw [f2]
            by_cases cL : le = -1
            · rw [if_pos cL] at e1
              rw [(Prod.mk.inj e1).1]
              rcases g3 with ⟨u1, u2⟩ | ⟨u1, u2⟩
              · rw [if_pos k9, u1, u2]
                rw [if_neg b0]
              · exact absurd cL u1
            · rw [if_neg cL] at e1
              rw [if_pos k9]
              rw [if_neg b0, (Prod.mk.inj e1).1]
          · have k7 : ¬ x_bestsDone.toInt < 12 := wk_nlt c7
            rw [if_neg c7] at e1
            rw [if_pos (show mo_bestsDone = 12 from Int32.toInt_inj.mp (show mo_bestsDone.toInt = 12 by omega))] at e2
            rw [(Prod.mk.inj e1).1, (Prod.mk.inj e2).1]
    · rw [if_pos u2] at e2
      have b0 : ¬ b = 0 := fun q => by have q1 : b.toInt = 0 := wk_eq q; omega
      have b1 : ¬ b = 1 := fun q => by have q1 : b.toInt = 1 := wk_eq q; omega
      simp only [if_neg b0, if_neg b1] at e1
      rcases ra_in (a := b) (lo := 10) (hi := 15) 10 15 rfl rfl with ⟨w1, w2, w3⟩ | ⟨w1, w2⟩
      · have k9 : ¬ b ≤ 9 := fun q => by have q1 : b.toInt ≤ 9 := wk_le q; omega
        rw [if_neg (show ¬ b < 10 from fun q => by have q1 : b.toInt < 10 := wk_lt q; omega), if_neg (show ¬ 15 < b from fun q => by have q1 : 15 < b.toInt := wk_lt q; omega)] at e1
        rw [if_neg w3] at e2
        rw [if_pos (ra_lacks (n := nwf_size) (by omega))] at e2
        by_cases c6 : (6 : Int32) < nwf_size
        · rw [if_pos c6] at e1 e2
          rw [(Prod.mk.inj e1).1, (Prod.mk.inj e2).1]
        · have k6 : ¬ 6 < nwf_size.toInt := wk_nlt c6
          rw [if_neg c6] at e1 e2
          by_cases c7 : x_bestsDone < 12
          · have k7 : x_bestsDone.toInt < 12 := wk_lt c7
            rw [if_pos c7] at e1
            rw [if_neg (show ¬ mo_bestsDone = 12 from fun q => by have q1 : mo_bestsDone.toInt = 12 := wk_eq q; omega)] at e2
            obtain ⟨le, li, p1, p2, p3, A2, B2, C, g1, g2, g3⟩ := ra_best (n := nwf_size) (a := a) (b := b) (z1 := tr_least) (z2 := tr_bestLinks) (w1 := trw_number) (w2 := trw_lane) (w3 := trw_looks) (m1 := mo_foundAt) (m2 := mo_foundLooks) (m3 := mo_foundLane) (h' := mheights_a) (A := tra_a) (B := trb_a) (u1 := msaved_a) (u2 := mbestHeights_a) ⟨hn, by omega⟩ i1 i4
            rw [g1] at e1
            simp only [ra_pm2] at e1 e2
            have f2 := (Prod.mk.inj e2).1
            rw [g2] at f2
            rw [f2]
            by_cases cL : le = -1
            · rw [if_pos cL] at e1
              rw [(Prod.mk.inj e1).1, if_neg k9, if_pos cL]
            · rw [if_neg cL] at e1
              rw [(Prod.mk.inj e1).1, if_neg k9, if_neg cL]
              have eb : (b - 10).toInt = b.toInt - 10 := wk_sub b.toInt 10 rfl rfl (by omega) (by omega)
              unfold fn_X9_bestHeight
              rw [if_neg (show ¬ (b - 10) < 0 from fun q => by have q1 : (b - 10).toInt < 0 := wk_lt q; omega)]
              by_cases cQ : (b - 10) < nwf_size
              · have kQ := wk_lt cQ
                rw [if_neg (show ¬ nwf_size ≤ b - 10 from fun q => by have q1 := wk_le q; omega), if_pos cQ]
                rcases g3 with ⟨u1, u2⟩ | ⟨u1, u2⟩
                · exact absurd u1 cL
                · exact (ra_at u2 (by omega) (by omega)).1
              · have kQ := wk_nlt cQ
                rw [if_pos (show nwf_size ≤ b - 10 from Int32.le_iff_toInt_le.mpr (by omega)), if_neg cQ]
          · have k7 : ¬ x_bestsDone.toInt < 12 := wk_nlt c7
            rw [if_neg c7] at e1
            rw [if_pos (show mo_bestsDone = 12 from Int32.toInt_inj.mp (show mo_bestsDone.toInt = 12 by omega))] at e2
            rw [(Prod.mk.inj e1).1, (Prod.mk.inj e2).1]
      · rw [if_pos w2] at e2
        rw [(Prod.mk.inj e2).1]
        by_cases cB : b < 10
        · rw [if_pos cB] at e1
          rw [(Prod.mk.inj e1).1]
        · have kB : ¬ b.toInt < 10 := wk_nlt cB
          rw [if_neg cB, if_pos (show 15 < b from Int32.lt_iff_toInt_lt.mpr (show 15 < b.toInt by omega))] at e1
          rw [(Prod.mk.inj e1).1]
  · rw [if_pos a2] at e2
    rw [(Prod.mk.inj e2).1]
    have cA : r = -102 := by
      by_cases cD : a < 1
      · simp only [if_pos cD] at e1
        by_cases cB : b < 10
        · rw [if_pos cB] at e1
          exact (Prod.mk.inj e1).1
        · rw [if_neg cB] at e1
          by_cases cC : 15 < b
          · rw [if_pos cC] at e1
            exact (Prod.mk.inj e1).1
          · rw [if_neg cC] at e1
            exact (Prod.mk.inj e1).1
      · have kD : ¬ a.toInt < 1 := wk_nlt cD
        have cE : 18 < a := Int32.lt_iff_toInt_lt.mpr (show 18 < a.toInt by omega)
        simp only [if_neg cD, if_pos cE] at e1
        by_cases cB : b < 10
        · rw [if_pos cB] at e1
          exact (Prod.mk.inj e1).1
        · rw [if_neg cB] at e1
          by_cases cC : 15 < b
          · rw [if_pos cC] at e1
            exact (Prod.mk.inj e1).1
          · rw [if_neg cC] at e1
            exact (Prod.mk.inj e1).1
    exact cA
theorem re_bestE_N {cl : Nat} {x_rowsRead : Int32} {x_rowOfImage : Int32} {x_bestsDone : Int32} {nw_asked : Int32} {nw_looksOfAsked : Int32} {nw_changes : Int32} {nwf_size : Int32} {nwfk_a : Nat → Int32} {nwfv_a : Nat → Int32} {nwfh_a : Nat → Int32} {nwft_a : Nat → Int32} {nws_size : Int32} {nwsk_a : Nat → Int32} {nwsv_a : Nat → Int32} {nwsh_a : Nat → Int32} {nwst_a : Nat → Int32} {nwe_size : Int32} {kp_asked : Int32} {kp_looksOfAsked : Int32} {kp_changes : Int32} {kpf_size : Int32} {kpfk_a : Nat → Int32} {kpfv_a : Nat → Int32} {kpfh_a : Nat → Int32} {kpft_a : Nat → Int32} {kps_size : Int32} {kpsk_a : Nat → Int32} {kpsv_a : Nat → Int32} {kpsh_a : Nat → Int32} {kpst_a : Nat → Int32} {kpe_size : Int32} {mo_law : Int32} {mo_many : Int32} {mo_asked : Int32} {mo_looksAll : Int32} {mo_changes : Int32} {mo_rowsRead : Int32} {mo_secondMany : Int32} {mo_seenMany : Int32} {mo_bestsDone : Int32} {mo_keptRow : Int32} {mo_keptMany : Int32} {mo_keptSecond : Int32} {mo_keptAsked : Int32} {mo_keptLooks : Int32} {mo_keptChanges : Int32} {mo_keptSeen : Int32} {mkeys_a : Nat → Int32} {mvalues_a : Nat → Int32} {mheights_a : Nat → Int32} {mheats_a : Nat → Int32} {msecondKeys_a : Nat → Int32} {msecondValues_a : Nat → Int32} {msecondHeights_a : Nat → Int32} {msecondHeats_a : Nat → Int32} {mkeptKeys_a : Nat → Int32} {mkeptValues_a : Nat → Int32} {mkeptHeights_a : Nat → Int32} {mkeptHeats_a : Nat → Int32} {mkeptKeys2_a : Nat → Int32} {mkeptValues2_a : Nat → Int32} {mkeptHeights2_a : Nat → Int32} {mkeptHeats2_a : Nat → Int32} {a : Int32} {b : Int32} {mo_foundAt : Int32} {mo_foundLooks : Int32} {mo_foundLane : Int32} {msaved_a : Nat → Int32} {mbestHeights_a : Nat → Int32} {n_mo_foundAt : Int32} {n_mo_foundLooks : Int32} {n_mo_foundLane : Int32} {n_mo_bestsDone : Int32} {n_mheights_a : Nat → Int32} {n_msaved_a : Nat → Int32} {n_mbestHeights_a : Nat → Int32} {r2 : Int32} (hR : re_N cl x_rowsRead x_rowOfImage x_bestsDone nw_asked nw_looksOfAsked nw_changes nwf_size nwfk_a nwfv_a nwfh_a nwft_a nws_size nwsk_a nwsv_a nwsh_a nwst_a nwe_size kp_asked kp_looksOfAsked kp_changes kpf_size kpfk_a kpfv_a kpfh_a kpft_a kps_size kpsk_a kpsv_a kpsh_a kpst_a kpe_size mo_law mo_many mo_asked mo_looksAll mo_changes mo_rowsRead mo_secondMany mo_seenMany mo_bestsDone mo_keptRow mo_keptMany mo_keptSecond mo_keptAsked mo_keptLooks mo_keptChanges mo_keptSeen mkeys_a mvalues_a mheights_a mheats_a msecondKeys_a msecondValues_a msecondHeights_a msecondHeats_a mkeptKeys_a mkeptValues_a mkeptHeights_a mkeptHeats_a mkeptKeys2_a mkeptValues2_a mkeptHeights2_a mkeptHeats2_a) (e2 : (r2, n_mo_foundAt, n_mo_foundLooks, n_mo_foundLane, n_mo_bestsDone, n_mheights_a, n_msaved_a, n_mbestHeights_a) = fn_X12_best mo_many mo_foundAt mo_foundLooks mo_foundLane mo_bestsDone mkeys_a mheights_a mheats_a msaved_a mbestHeights_a a b) : (fn_X11_best_N a b) = r2 ∧ re_N (cl + 1) x_rowsRead x_rowOfImage x_bestsDone nw_asked nw_looksOfAsked nw_changes nwf_size nwfk_a nwfv_a nwfh_a nwft_a nws_size nwsk_a nwsv_a nwsh_a nwst_a nwe_size kp_asked kp_looksOfAsked kp_changes kpf_size kpfk_a kpfv_a kpfh_a kpft_a kps_size kpsk_a kpsv_a kpsh_a kpst_a kpe_size mo_law mo_many mo_asked mo_looksAll mo_changes mo_rowsRead mo_secondMany mo_seenMany n_mo_bestsDone mo_keptRow mo_keptMany mo_keptSecond mo_keptAsked mo_keptLooks mo_keptChanges mo_keptSeen mkeys_a mvalues_a n_mheights_a mheats_a msecondKeys_a msecondValues_a msecondHeights_a msecondHeats_a mkeptKeys_a mkeptValues_a mkeptHeights_a mkeptHeats_a mkeptKeys2_a mkeptValues2_a mkeptHeights2_a mkeptHeats2_a := by
  have hR9 := re_best_N hR e2
  refine ⟨?_, hR9⟩
  clear hR9
  obtain ⟨⟨b1, ⟨q1, q2, q3, q4, q5⟩, hT, hU, b5⟩, hn, hs, hr, hi⟩ := hR
  obtain rfl := hT.1
  obtain rfl := hU.1
  subst hn
  unfold fn_X11_best_N
  unfold fn_X12_best at e2
  rcases ra_in (a := a) (lo := 1) (hi := 18) 1 18 rfl rfl with ⟨a1, a2, a3⟩ | ⟨a1, a2⟩
  · have y1 : ¬ a < 1 := fun q => by have q1 : a.toInt < 1 := wk_lt q; omega
    have y2 : ¬ 18 < a := fun q => by have q1 : 18 < a.toInt := wk_lt q; omega
    simp only [if_neg y1, if_neg y2]
    rw [if_neg a3] at e2
    rcases ra_in (a := b) (lo := 0) (hi := 1) 0 1 rfl rfl with ⟨u1, u2, u3⟩ | ⟨u1, u2⟩
    · rw [if_pos (show b < 10 from Int32.lt_iff_toInt_lt.mpr (show b.toInt < 10 by omega))]
      rw [if_neg u3, if_neg re_lk0] at e2
      rw [(Prod.mk.inj e2).1]
      by_cases b0 : b = 0
      · rw [if_pos b0]
      · have b9 : ¬ b.toInt = 0 := wk_neq b0
        rw [if_neg b0, if_pos (show b = 1 from Int32.toInt_inj.mp (show b.toInt = 1 by omega))]
    · rw [if_pos u2] at e2
      have b0 : ¬ b = 0 := fun q => by have q1 : b.toInt = 0 := wk_eq q; omega
      have b1 : ¬ b = 1 := fun q => by have q1 : b.toInt = 1 := wk_eq q; omega
      simp only [if_neg b0, if_neg b1]
      rcases ra_in (a := b) (lo := 10) (hi := 15) 10 15 rfl rfl with ⟨w1, w2, w3⟩ | ⟨w1, w2⟩
      · rw [if_neg (show ¬ b < 10 from fun q => by have q1 : b.toInt < 10 := wk_lt q; omega), if_neg (show ¬ 15 < b from fun q => by have q1 : 15 < b.toInt := wk_lt q; omega)]
        rw [if_neg w3, if_neg re_lk0] at e2
        rw [(Prod.mk.inj e2).1]
      · rw [if_pos w2] at e2
        rw [(Prod.mk.inj e2).1]
        by_cases cB : b < 10
        · rw [if_pos cB]
        · have kB : ¬ b.toInt < 10 := wk_nlt cB
          rw [if_neg cB, if_pos (show 15 < b from Int32.lt_iff_toInt_lt.mpr (show 15 < b.toInt by omega))]
  · rw [if_pos a2] at e2
    rw [(Prod.mk.inj e2).1]
    by_cases cD : a < 1
    · simp only [if_pos cD]
      by_cases cB : b < 10
      · rw [if_pos cB]
      · rw [if_neg cB]
        by_cases cC : 15 < b
        · rw [if_pos cC]
        · rw [if_neg cC]
    · have kD : ¬ a.toInt < 1 := wk_nlt cD
      have cE : 18 < a := Int32.lt_iff_toInt_lt.mpr (show 18 < a.toInt by omega)
      simp only [if_neg cD, if_pos cE]
      by_cases cB : b < 10
      · rw [if_pos cB]
      · rw [if_neg cB]
        by_cases cC : 15 < b
        · rw [if_pos cC]
        · rw [if_neg cC]
