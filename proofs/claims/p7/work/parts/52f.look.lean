theorem ra_nxL {P : Int32 → Prop} {n : Int32} {f g : Nat → Int32} (h : ra_ag P n.toInt f g) (hn : n.toInt ≤ 8) (a a2 b : Int32) : ∀ (fu : Nat) (x : Int32), 0 ≤ x.toInt → lp_X8_nextInLane_5 n f a b fu x = lp_X12_nextIn_4 n g a2 b fu x := by
  intro fu
  induction fu with
  | zero => intro x hx; rw [lp_X8_nextInLane_5, lp_X12_nextIn_4]
  | succ fu ih =>
    intro x hx
    rw [lp_X8_nextInLane_5, lp_X12_nextIn_4]
    by_cases c : n ≤ x
    · simp only [if_pos c]
    · simp only [if_neg c]
      have k := wk_nle c
      rw [(ra_at h hx (by omega)).1]
      by_cases d : g x.toNatClampNeg ≤ b
      · simp only [if_pos d]
        exact ih (x + 1) (by rw [ra_inc (by omega) hx]; omega)
      · simp only [if_neg d]
theorem ra_nx {P : Int32 → Prop} {n : Int32} {f g : Nat → Int32} (h : ra_ag P n.toInt f g) (hn : n.toInt ≤ 8) {x : Int32} (hx : -1 ≤ x.toInt ∧ x.toInt ≤ 8) (b : Int32) : fn_X8_nextInLane n f x b = fn_X12_nextIn n g x b := by
  unfold fn_X8_nextInLane fn_X12_nextIn
  exact ra_nxL h hn x x b 10 (x + 1) (by rw [wk_add x.toInt 1 rfl rfl (by omega) (by omega)]; omega)
theorem ra_nxB {n : Int32} {g : Nat → Int32} (hn : n.toInt ≤ 8) (a b : Int32) : ∀ (fu : Nat) (x : Int32), 0 ≤ x.toInt → x.toInt ≤ 9 → 9 - x.toInt < (fu : Int) → lp_X12_nextIn_4 n g a b fu x = -1 ∨ (x.toInt ≤ (lp_X12_nextIn_4 n g a b fu x).toInt ∧ (lp_X12_nextIn_4 n g a b fu x).toInt < n.toInt ∧ b.toInt < (g (lp_X12_nextIn_4 n g a b fu x).toNatClampNeg).toInt) := by
  intro fu
  induction fu with
  | zero => intro x h1 h2 h3; exfalso; omega
  | succ fu ih =>
    intro x h1 h2 h3
    rw [lp_X12_nextIn_4]
    by_cases c : n ≤ x
    · simp only [if_pos c]
      exact Or.inl trivial
    · simp only [if_neg c]
      have k := wk_nle c
      by_cases d : g x.toNatClampNeg ≤ b
      · simp only [if_pos d]
        have e := ra_inc (x := x) (by omega) h1
        rcases ih (x + 1) (by omega) (by omega) (by omega) with h | ⟨u1, u2, u3⟩
        · exact Or.inl h
        · exact Or.inr ⟨by omega, u2, u3⟩
      · simp only [if_neg d]
        have k2 := wk_nle d
        exact Or.inr ⟨by omega, by omega, by omega⟩
theorem ra_nxR {n : Int32} {g : Nat → Int32} (hn : n.toInt ≤ 8) {x b : Int32} (hx : -1 ≤ x.toInt ∧ x.toInt ≤ 8) : fn_X12_nextIn n g x b = -1 ∨ (x.toInt < (fn_X12_nextIn n g x b).toInt ∧ (fn_X12_nextIn n g x b).toInt < n.toInt ∧ b.toInt < (g (fn_X12_nextIn n g x b).toNatClampNeg).toInt) := by
  unfold fn_X12_nextIn
  have e : (x + 1).toInt = x.toInt + 1 := wk_add x.toInt 1 rfl rfl (by omega) (by omega)
  rcases ra_nxB (n := n) (g := g) hn x b 10 (x + 1) (by omega) (by omega) (by omega) with h | ⟨u1, u2, u3⟩
  · exact Or.inl h
  · exact Or.inr ⟨by omega, u2, u3⟩
theorem ra_laL {P : Int32 → Prop} {n : Int32} {f g : Nat → Int32} (h : ra_ag P n.toInt f g) (hn : n.toInt ≤ 8) : ∀ (fu : Nat) (m x : Int32), 0 ≤ x.toInt → lp_X8_highestOf_4 n f fu m x = lp_X12_lanes_4 n g fu m x := by
  intro fu
  induction fu with
  | zero => intro m x hx; rw [lp_X8_highestOf_4, lp_X12_lanes_4]
  | succ fu ih =>
    intro m x hx
    rw [lp_X8_highestOf_4, lp_X12_lanes_4]
    by_cases c : n ≤ x
    · simp only [if_pos c]
    · simp only [if_neg c]
      have k := wk_nle c
      have h0 : 0 ≤ (x + 1).toInt := by rw [ra_inc (by omega) hx]; omega
      rw [(ra_at h hx (by omega)).1]
      by_cases d : g x.toNatClampNeg ≤ m
      · have d2 : ¬ m < g x.toNatClampNeg := fun q => by have q1 := wk_lt q; have q2 := wk_le d; omega
        simp only [if_pos d, if_neg d2]
        exact ih m (x + 1) h0
      · have d2 : m < g x.toNatClampNeg := Int32.lt_iff_toInt_lt.mpr (by have q2 := wk_nle d; omega)
        simp only [if_neg d, if_pos d2]
        exact ih _ (x + 1) h0
theorem ra_la {P : Int32 → Prop} {n : Int32} {f g : Nat → Int32} (h : ra_ag P n.toInt f g) (hn : n.toInt ≤ 8) : fn_X8_highestOf n f = fn_X12_lanes n g := by
  unfold fn_X8_highestOf fn_X12_lanes
  rw [ra_laL h hn 10 0 0 (by decide)]
theorem ra_laB {n : Int32} {f g : Nat → Int32} (h : ra_ag ra_H n.toInt f g) (hn : n.toInt ≤ 8) : ∀ (fu : Nat) (m x : Int32), 0 ≤ x.toInt → x.toInt ≤ 8 → 8 - x.toInt < (fu : Int) → (0 ≤ m.toInt ∧ m.toInt ≤ 4) → 0 ≤ (lp_X12_lanes_4 n g fu m x).1.toInt ∧ (lp_X12_lanes_4 n g fu m x).1.toInt ≤ 4 := by
  intro fu
  induction fu with
  | zero => intro m x h1 h2 h3; exfalso; omega
  | succ fu ih =>
    intro m x h1 h2 h3 h4
    rw [lp_X12_lanes_4]
    by_cases c : n ≤ x
    · simp only [if_pos c]; exact h4
    · simp only [if_neg c]
      have k := wk_nle c
      have e := ra_inc (x := x) (by omega) h1
      by_cases d : g x.toNatClampNeg ≤ m
      · simp only [if_pos d]
        exact ih m (x + 1) (by omega) (by omega) (by omega) h4
      · simp only [if_neg d]
        obtain ⟨a1, a2⟩ := ra_at h h1 (by omega)
        rw [a1] at a2
        exact ih _ (x + 1) (by omega) (by omega) (by omega) ⟨by have := a2.1; omega, a2.2⟩
theorem ra_laR {n : Int32} {f g : Nat → Int32} (h : ra_ag ra_H n.toInt f g) (hn : n.toInt ≤ 8) : 0 ≤ (fn_X12_lanes n g).toInt ∧ (fn_X12_lanes n g).toInt ≤ 4 := by
  unfold fn_X12_lanes
  rw [ra_pm2]
  exact ra_laB h hn 10 0 0 (by decide) (by decide) (by decide) ⟨by decide, by decide⟩
theorem ra_goL {P : Int32 → Prop} {n : Int32} {k k' h h' : Nat → Int32} (hn : n.toInt ≤ 8) (i1 : ra_ag P n.toInt k k') (i3 : ra_ag ra_H n.toInt h h') {w1 w2 w3 m1 m2 m3 a a1 b1 q : Int32} : ∀ (fu fv : Nat) (x lv tn lk : Int32), (-1 ≤ x.toInt ∧ x.toInt ≤ 7) → (-1 ≤ lv.toInt ∧ lv.toInt ≤ 3) → 0 ≤ tn.toInt → tn.toInt + (5 * (7 - x.toInt) + (lv.toInt + 1)) < 100 → 5 * (7 - x.toInt) + (lv.toInt + 1) < (fu : Int) → 5 * (7 - x.toInt) + (lv.toInt + 1) + 1 < (fv : Int) →
    ∃ (y z F L S : Int32), lp_X10_go_91 w1 w2 w3 n k h a q fu x lv tn (-1) (-1) lk = (F, L, S) ∧ lp_X12_look_21 n m1 m2 m3 k' h' a1 b1 q 0 fv x lv (-1) lk (-1) = (y, z, F, S, L) ∧ (F = -1 ∨ (0 ≤ F.toInt ∧ F.toInt < n.toInt)) := by
  intro fu
  induction fu with
  | zero => intro fv x lv tn lk h1 h2 h3 h4 h5 h6; exfalso; omega
  | succ fu ih =>
    intro fv x lv tn lk h1 h2 h3 h4 h5 h6
    obtain ⟨fw, rfl⟩ : ∃ fw, fv = fw + 1 := ⟨fv - 1, by omega⟩
    rw [lp_X10_go_91, lp_X12_look_21]
    have c1 : ¬ (100 : Int32) ≤ tn := fun q => by have q1 : 100 ≤ tn.toInt := wk_le q; omega
    have cm : ((-1 : Int32) = -1) := rfl
    simp only [if_neg c1, if_pos cm]
    by_cases c2 : lv < 0
    · simp only [if_pos c2]
      exact ⟨x, lv, -1, -1, lk, rfl, rfl, Or.inl rfl⟩
    · have k2 : ¬ lv.toInt < 0 := wk_nlt c2
      have e1 := ra_dec (x := lv) (by omega)
      have e2 := ra_inc (x := tn) (by omega) h3
      simp only [if_neg c2]
      rw [ra_nx i3 hn (by omega) lv]
      have hr := ra_nxR (n := n) (g := h') hn (x := x) (b := lv) (by omega)
      obtain ⟨y, ey⟩ : ∃ y : Int32, y = fn_X12_nextIn n h' x lv := ⟨_, rfl⟩
      rw [← ey]
      rw [← ey] at hr
      by_cases c3 : y = -1
      · simp only [if_pos c3]
        exact ih fw x (lv + (-1)) (tn + 1) _ h1 (by omega) (by omega) (by omega) (by omega) (by omega)
      · simp only [if_neg c3]
        obtain ⟨r1, r2, r3⟩ := hr.resolve_left c3
        rw [(ra_at i1 (x := y) (by omega) r2).1]
        obtain ⟨hh1, hh2⟩ := ra_at i3 (x := y) (by omega) r2
        have hh3 : 1 ≤ (h y.toNatClampNeg).toInt ∧ (h y.toNatClampNeg).toInt ≤ 4 := hh2
        rw [hh1] at hh3
        have e3 : (h' y.toNatClampNeg - 1).toInt = (h' y.toNatClampNeg).toInt - 1 := wk_sub _ 1 rfl rfl (by omega) (by omega)
        by_cases c4 : k' y.toNatClampNeg = q
        · have c5 : k' y.toNatClampNeg ≤ q := Int32.le_iff_toInt_le.mpr (by rw [c4]; exact Int.le_refl _)
          simp only [if_pos c4, if_pos c5]
          obtain ⟨fx, rfl⟩ : ∃ fx, fw = fx + 1 := ⟨fw - 1, by omega⟩
          rw [lp_X12_look_21]
          simp only [if_neg c2, if_neg c3]
          exact ⟨x, lv, y, lv, lk + 1, rfl, rfl, Or.inr ⟨by omega, r2⟩⟩
        · simp only [if_neg c4]
          by_cases c5 : q ≤ k' y.toNatClampNeg
          · have c6 : ¬ k' y.toNatClampNeg ≤ q := fun u => c4 (Int32.toInt_inj.mp (by have u1 := wk_le u; have u2 := wk_le c5; omega))
            simp only [if_pos c5, if_neg c6]
            exact ih fw x (lv + (-1)) (tn + 1) _ h1 (by omega) (by omega) (by omega) (by omega) (by omega)
          · have c6 : k' y.toNatClampNeg ≤ q := Int32.le_iff_toInt_le.mpr (by have u2 := wk_nle c5; omega)
            simp only [if_neg c5, if_pos c6, if_pos (show (0 : Int32) = 0 from rfl)]
            exact ih fw y lv (tn + 1) _ (by omega) h2 (by omega) (by omega) (by omega) (by omega)
theorem ra_goLv1 {P : Int32 → Prop} {n : Int32} {k k' h h' : Nat → Int32} (hn : n.toInt ≤ 8) (i1 : ra_ag P n.toInt k k') (i3 : ra_ag ra_H n.toInt h h') {w1 w2 w3 m1 m2 m3 a a1 b1 q : Int32} : ∀ (fu fv : Nat) (x lv tn lk : Int32), (-1 ≤ x.toInt ∧ x.toInt ≤ 7) → (-1 ≤ lv.toInt ∧ lv.toInt ≤ 3) → 0 ≤ tn.toInt → tn.toInt + (5 * (7 - x.toInt) + (lv.toInt + 1)) < 100 → 5 * (7 - x.toInt) + (lv.toInt + 1) < (fu : Int) → 5 * (7 - x.toInt) + (lv.toInt + 1) + 1 < (fv : Int) →
    ∃ (y z F L S : Int32), lp_X10_go_91v1 w1 w2 w3 n k h a q fu x lv tn (-1) (-1) lk = (F, L, S) ∧ lp_X12_look_21 n m1 m2 m3 k' h' a1 b1 q 1 fv x lv (-1) lk (-1) = (y, z, F, S, L) ∧ (F = -1 ∨ (0 ≤ F.toInt ∧ F.toInt < n.toInt)) := by
  intro fu
  induction fu with
  | zero => intro fv x lv tn lk h1 h2 h3 h4 h5 h6; exfalso; omega
  | succ fu ih =>
    intro fv x lv tn lk h1 h2 h3 h4 h5 h6
    obtain ⟨fw, rfl⟩ : ∃ fw, fv = fw + 1 := ⟨fv - 1, by omega⟩
    rw [lp_X10_go_91v1, lp_X12_look_21]
    have c1 : ¬ (100 : Int32) ≤ tn := fun q => by have q1 : 100 ≤ tn.toInt := wk_le q; omega
    have cm : ((-1 : Int32) = -1) := rfl
    simp only [if_neg c1, if_pos cm]
    by_cases c2 : lv < 0
    · simp only [if_pos c2]
      exact ⟨x, lv, -1, -1, lk, rfl, rfl, Or.inl rfl⟩
    · have k2 : ¬ lv.toInt < 0 := wk_nlt c2
      have e1 := ra_dec (x := lv) (by omega)
      have e2 := ra_inc (x := tn) (by omega) h3
      simp only [if_neg c2]
      rw [ra_nx i3 hn (by omega) lv]
      have hr := ra_nxR (n := n) (g := h') hn (x := x) (b := lv) (by omega)
      obtain ⟨y, ey⟩ : ∃ y : Int32, y = fn_X12_nextIn n h' x lv := ⟨_, rfl⟩
      rw [← ey]
      rw [← ey] at hr
      by_cases c3 : y = -1
      · simp only [if_pos c3]
        exact ih fw x (lv + (-1)) (tn + 1) _ h1 (by omega) (by omega) (by omega) (by omega) (by omega)
      · simp only [if_neg c3]
        obtain ⟨r1, r2, r3⟩ := hr.resolve_left c3
        rw [(ra_at i1 (x := y) (by omega) r2).1]
        obtain ⟨hh1, hh2⟩ := ra_at i3 (x := y) (by omega) r2
        have hh3 : 1 ≤ (h y.toNatClampNeg).toInt ∧ (h y.toNatClampNeg).toInt ≤ 4 := hh2
        rw [hh1] at hh3
        have e3 : (h' y.toNatClampNeg - 1).toInt = (h' y.toNatClampNeg).toInt - 1 := wk_sub _ 1 rfl rfl (by omega) (by omega)
        by_cases c4 : k' y.toNatClampNeg = q
        · have c5 : k' y.toNatClampNeg ≤ q := Int32.le_iff_toInt_le.mpr (by rw [c4]; exact Int.le_refl _)
          simp only [if_pos c4, if_pos c5]
          obtain ⟨fx, rfl⟩ : ∃ fx, fw = fx + 1 := ⟨fw - 1, by omega⟩
          rw [lp_X12_look_21]
          simp only [if_neg c2, if_neg c3]
          exact ⟨x, lv, y, lv, lk + 1, rfl, rfl, Or.inr ⟨by omega, r2⟩⟩
        · simp only [if_neg c4]
          by_cases c5 : q ≤ k' y.toNatClampNeg
          · have c6 : ¬ k' y.toNatClampNeg ≤ q := fun u => c4 (Int32.toInt_inj.mp (by have u1 := wk_le u; have u2 := wk_le c5; omega))
            simp only [if_pos c5, if_neg c6]
            exact ih fw x (lv + (-1)) (tn + 1) _ h1 (by omega) (by omega) (by omega) (by omega) (by omega)
          · have c6 : k' y.toNatClampNeg ≤ q := Int32.le_iff_toInt_le.mpr (by have u2 := wk_nle c5; omega)
            simp only [if_neg c5, if_pos c6, if_neg (show ¬ (1 : Int32) = 0 by decide)]
            rw [hh1]
            exact ih fw y (h' y.toNatClampNeg - 1) (tn + 1) _ (by omega) (by omega) (by omega) (by omega) (by omega) (by omega)
theorem ra_go {n : Int32} {k k' h h' : Nat → Int32} {P : Int32 → Prop} (hn : 0 ≤ n.toInt ∧ n.toInt ≤ 8) (i1 : ra_ag P n.toInt k k') (i3 : ra_ag ra_H n.toInt h h') (w1 w2 w3 m1 m2 m3 q : Int32) : ∃ (F L S : Int32), fn_X10_go w1 w2 w3 n k h (-1) q = (F, L, S) ∧ fn_X12_lookFor n m1 m2 m3 k' h' q = (F, S, L) ∧ (F = -1 ∨ (0 ≤ F.toInt ∧ F.toInt < n.toInt)) := by
  have hl := ra_laR i3 hn.2
  have z : (0 : Int32).toInt = 0 := rfl
  have z1 : (-1 : Int32).toInt = -1 := rfl
  have e : (fn_X12_lanes n h' - 1).toInt = (fn_X12_lanes n h').toInt - 1 := wk_sub _ 1 rfl rfl (by omega) (by omega)
  obtain ⟨y, x, F, L, S, q1, q2, q3⟩ := ra_goL hn.2 i1 i3 (w1 := w1) (w2 := w2) (w3 := w3) (m1 := m1) (m2 := m2) (m3 := m3) (a := -1) (a1 := -1) (b1 := fn_X12_lanes n h' - 1) (q := q) 102 42949672960 (-1) (fn_X12_lanes n h' - 1) 0 0 (by omega) (by omega) (by omega) (by omega) (by omega) (by omega)
  refine ⟨F, L, S, ?_, ?_, q3⟩
  · unfold fn_X10_go
    rw [if_pos (show (-1 : Int32) < 0 by decide), ra_la i3 hn.2, q1]
  · unfold fn_X12_lookFor fn_X12_look
    rw [q2]
    simp only [ra_pm2]
theorem ra_gof {n a q : Int32} {k k' h h' : Nat → Int32} {P : Int32 → Prop} (hn : 0 ≤ n.toInt ∧ n.toInt ≤ 8) (ha : 0 ≤ a.toInt ∧ a.toInt < n.toInt) (i1 : ra_ag P n.toInt k k') (i3 : ra_ag ra_H n.toInt h h') (w1 w2 w3 m1 m2 m3 : Int32) (hq : ¬ k' a.toNatClampNeg = q) : ∃ (F L S : Int32), fn_X10_go w1 w2 w3 n k h a q = (F, L, S) ∧ fn_X12_look n m1 m2 m3 k' h' a (h' a.toNatClampNeg - 1) q 1 = (F, S, L) := by
  have z : (0 : Int32).toInt = 0 := rfl
  obtain ⟨hh1, hh2⟩ := ra_at i3 (x := a) ha.1 ha.2
  have hh3 : 1 ≤ (h a.toNatClampNeg).toInt ∧ (h a.toNatClampNeg).toInt ≤ 4 := hh2
  rw [hh1] at hh3
  have e : (h' a.toNatClampNeg - 1).toInt = (h' a.toNatClampNeg).toInt - 1 := wk_sub _ 1 rfl rfl (by omega) (by omega)
  obtain ⟨y, x, F, L, S, q1, q2, q3⟩ := ra_goLv1 hn.2 i1 i3 (w1 := w1) (w2 := w2) (w3 := w3) (m1 := m1) (m2 := m2) (m3 := m3) (a := a) (a1 := a) (b1 := h' a.toNatClampNeg - 1) (q := q) 102 42949672960 a (h' a.toNatClampNeg - 1) 0 0 (by omega) (by omega) (by omega) (by omega) (by omega) (by omega)
  refine ⟨F, L, S, ?_, ?_⟩
  · unfold fn_X10_go
    rw [if_neg (show ¬ a < 0 from fun u => by have u1 : a.toInt < 0 := wk_lt u; omega), if_neg (show ¬ n ≤ a from fun u => by have u1 := wk_le u; omega), (ra_at i1 ha.1 ha.2).1, if_neg hq, hh1, q1]
  · unfold fn_X12_look
    rw [q2]
    simp only [ra_pm2]
theorem ra_ask {n as ls a : Int32} {k v h t k' v' h' t' : Nat → Int32} (hn : 2 ≤ n.toInt) (hT : ra_T n k v h t n k' v' h' t') {w1 w2 w3 m1 m2 m3 : Int32}
    {r r' a1 l1 a2 l2 p1 p2 p3 s1 s2 s3 : Int32} {t1 t2 : Nat → Int32} (e1 : (r, a1, l1, t1, p1, p2, p3) = fn_X11_ask_R as ls n k v h t w1 w2 w3 a) (e2 : (r', a2, l2, s1, s2, s3, t2) = fn_X12_ask n as ls m1 m2 m3 k' v' h' t' a) : r = r' ∧ a1 = a2 ∧ l1 = l2 ∧ ra_T n k v h t1 n k' v' h' t2 := by
  obtain ⟨-, hn8, i1, i2, i3, i4⟩ := id hT
  unfold fn_X11_ask_R at e1
  unfold fn_X12_ask at e2
  rcases ra_isKey a with ⟨ka, kb, kc⟩ | ⟨ka, kb⟩
  · rw [if_pos ka] at e1
    rw [if_neg kb, if_pos (ra_lacks (n := n) (by omega))] at e2
    obtain ⟨F, L, S, q1, q2, q3⟩ := ra_go hn8 i1 i3 w1 w2 w3 m1 m2 m3 a
    rw [q1] at e1
    rw [q2] at e2
    simp only [ra_pm2] at e1 e2
    rcases q3 with rfl | ⟨f1, f2⟩
    · have cm : ((-1 : Int32) = -1) := rfl
      have cl : ((-1 : Int32) < 0) := by decide
      simp only [if_pos cl] at e1
      simp only [if_pos cm] at e2
      have ev : fn_X11_valueOf n v (-1) = fn_X12_tellFound (-1) S L v' 3 := by
        unfold fn_X11_valueOf fn_X11_namesNoKey fn_X12_tellFound
        rw [if_pos cl, if_neg (show ¬ (1 : Int32) = 0 by decide), if_neg (show ¬ (3 : Int32) = 0 by decide), if_neg (show ¬ (3 : Int32) = 1 by decide), if_neg (show ¬ (3 : Int32) = 2 by decide), if_pos cm]
      rw [ev] at e1
      cases e1
      cases e2
      exact ⟨rfl, rfl, rfl, hT⟩
    · have cm : ¬ F = -1 := fun u => by have u1 : F.toInt = -1 := wk_eq u; omega
      have cl : ¬ F < 0 := fun u => by have u1 : F.toInt < 0 := wk_lt u; omega
      simp only [if_neg cl] at e1
      simp only [if_neg cm] at e2
      obtain ⟨g1, g2⟩ := ra_at i4 f1 f2
      have g3 : 0 ≤ (t F.toNatClampNeg).toInt ∧ (t F.toNatClampNeg).toInt ≤ 99 := g2
      by_cases c9 : t F.toNatClampNeg < 99
      · have k9 : (t F.toNatClampNeg).toInt < 99 := wk_lt c9
        rw [if_pos c9] at e1
        rw [if_neg (fun u => by have u1 : (t' F.toNatClampNeg).toInt = 99 := wk_eq u; rw [g1] at k9; omega)] at e2
        have ev : fn_X11_valueOf n v F = fn_X12_tellFound F S L v' 3 := by
          unfold fn_X11_valueOf fn_X11_namesNoKey fn_X12_tellFound
          rw [if_neg cl, if_pos (Int32.lt_iff_toInt_lt.mpr f2), if_pos (show (0 : Int32) = 0 from rfl), if_neg (show ¬ (3 : Int32) = 0 by decide), if_neg (show ¬ (3 : Int32) = 1 by decide), if_neg (show ¬ (3 : Int32) = 2 by decide), if_neg cm]
          exact (ra_at i2 f1 f2).1
        rw [ev] at e1
        have e9 := ra_inc (x := t F.toNatClampNeg) (by omega) g3.1
        cases e1
        cases e2
        exact ⟨rfl, rfl, rfl, rfl, hn8, i1, i2, i3, ra_upd i4 _ (by rw [g1]) ⟨by omega, by omega⟩⟩
      · have k9 : ¬ (t F.toNatClampNeg).toInt < 99 := wk_nlt c9
        rw [if_neg c9] at e1
        rw [if_pos (Int32.toInt_inj.mp (show (t' F.toNatClampNeg).toInt = 99 by rw [← g1]; omega))] at e2
        cases e1
        cases e2
        exact ⟨rfl, rfl, rfl, hT⟩
  · rw [if_neg ka] at e1
    rw [if_pos kb] at e2
    cases e1
    cases e2
    exact ⟨rfl, rfl, rfl, hT⟩
