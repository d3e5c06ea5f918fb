def ra_kind (lc : Nat) (ml : Int32) : Prop := (lc = 3 ∧ ml = 0) ∨ (lc = 1 ∧ ml = 1) ∨ (lc = 5 ∧ ml = 2) ∨ (lc = 0 ∧ ml = 3) ∨ (lc = 7 ∧ ml = 4)
theorem ra_top {r h : Int32} (h1 : r.toInt + 1 = h.toInt) (h2 : h.toInt ≤ 4) (h3 : 0 ≤ r.toInt) : h = fn_X12_topped (1 + r) := by
  have e : (1 + r).toInt = 1 + r.toInt := wk_add 1 r.toInt rfl rfl (by omega) (by omega)
  unfold fn_X12_topped
  rw [if_pos (show (1 + r) ≤ 4 from Int32.le_iff_toInt_le.mpr (by rw [e]; show 1 + r.toInt ≤ 4; omega))]
  exact Int32.toInt_inj.mp (by omega)
theorem ra_top4 {r h : Int32} (h1 : h.toInt = 4) (h2 : 3 ≤ r.toInt) (h3 : r.toInt ≤ 2000) : h = fn_X12_topped (1 + r) := by
  have e : (1 + r).toInt = 1 + r.toInt := wk_add 1 r.toInt rfl rfl (by omega) (by omega)
  unfold fn_X12_topped
  by_cases c : (1 + r) ≤ 4
  · have k : (1 + r).toInt ≤ 4 := wk_le c
    rw [if_pos c]
    exact Int32.toInt_inj.mp (by omega)
  · rw [if_neg c]
    exact Int32.toInt_inj.mp h1
theorem ra_dvR2 (a : Int32) : ∀ (fv : Nat) (t y : Int32), 0 ≤ t.toInt → 0 ≤ y.toInt → t.toInt + y.toInt ≤ 1000 → y.toInt < (fv : Int) → t.toInt ≤ (lp_X12_divides_2_4 a fv t y).1.toInt ∧ (lp_X12_divides_2_4 a fv t y).1.toInt ≤ t.toInt + y.toInt := by
  intro fv
  induction fv with
  | zero => intro t y h1 h2 h3 h4; exfalso; omega
  | succ fv ih =>
    intro t y h1 h2 h3 h4
    rw [lp_X12_divides_2_4]
    by_cases c : y ≤ 0
    · simp only [if_pos c]; omega
    · simp only [if_neg c]
      have k : ¬ y.toInt ≤ 0 := wk_nle c
      by_cases d : (y - y / 2 * 2) = 0
      · simp only [if_pos d]
        have e1 := ra_inc (x := t) (by omega) h1
        have e2 : (y / 2).toInt = y.toInt / 2 := wk_div 2 rfl h2 (by decide)
        have h9 := ih (t + 1) (y / 2) (by omega) (by omega) (by omega) (by omega)
        omega
      · simp only [if_neg d]; omega
theorem ra_dvS2 (a b : Int32) : ∀ (fu fv : Nat) (h t y : Int32), (1 ≤ h.toInt ∧ h.toInt ≤ 4) → t.toInt + 1 = h.toInt → (0 ≤ y.toInt ∧ y.toInt ≤ 200) → 4 - h.toInt < (fu : Int) → y.toInt < (fv : Int) → (lp_X3_heightByDivisor_4 a 2 fu h y).1 = fn_X12_topped (1 + (lp_X12_divides_2_4 b fv t y).1) ∧ ra_H (lp_X3_heightByDivisor_4 a 2 fu h y).1 := by
  intro fu
  induction fu with
  | zero => intro fv h t y h1 h2 h3 h4; exfalso; omega
  | succ fu ih =>
    intro fv h t y h1 h2 h3 h4 h5
    rw [lp_X3_heightByDivisor_4]
    by_cases c4 : (4 : Int32) ≤ h
    · have k4 : 4 ≤ h.toInt := wk_le c4
      simp only [if_pos c4]
      have h9 := ra_dvR2 b fv t y (by omega) (by omega) (by omega) h5
      exact ⟨ra_top4 (by omega) (by omega) (by omega), h1⟩
    · have k4 : ¬ 4 ≤ h.toInt := wk_nle c4
      have n1 : ¬ (2 : Int32) ≤ 1 := by decide
      simp only [if_neg c4, if_neg n1]
      obtain ⟨fw, rfl⟩ : ∃ fw, fv = fw + 1 := ⟨fv - 1, by omega⟩
      rw [lp_X12_divides_2_4]
      by_cases c : y ≤ 0
      · simp only [if_pos c]
        exact ⟨ra_top h2 h1.2 (by omega), h1⟩
      · simp only [if_neg c]
        have k : ¬ y.toInt ≤ 0 := wk_nle c
        by_cases d : (y - y / 2 * 2) = 0
        · simp only [if_pos d]
          have e1 := ra_inc (x := t) (by omega) (by omega)
          have e3 := ra_inc (x := h) (by omega) (by omega)
          have e2 : (y / 2).toInt = y.toInt / 2 := wk_div 2 rfl h3.1 (by decide)
          exact ih fw (h + 1) (t + 1) (y / 2) (by omega) (by omega) (by omega) (by omega) (by omega)
        · simp only [if_neg d]
          exact ⟨ra_top h2 h1.2 (by omega), h1⟩
theorem ra_dv2 {y : Int32} (h : 0 ≤ y.toInt ∧ y.toInt ≤ 200) : fn_X3_heightByDivisor y 2 = fn_X12_topped (1 + fn_X12_divides_2 y) ∧ ra_H (fn_X3_heightByDivisor y 2) := by
  unfold fn_X3_heightByDivisor fn_X12_divides_2
  rw [ra_pm2, ra_pm2]
  exact ra_dvS2 y y 6 4294967296 1 0 y ⟨by decide, by decide⟩ rfl h (by decide) (by omega)
theorem ra_dvR3 (a : Int32) : ∀ (fv : Nat) (t y : Int32), 0 ≤ t.toInt → 0 ≤ y.toInt → t.toInt + y.toInt ≤ 1000 → y.toInt < (fv : Int) → t.toInt ≤ (lp_X12_divides_3_4 a fv t y).1.toInt ∧ (lp_X12_divides_3_4 a fv t y).1.toInt ≤ t.toInt + y.toInt := by
  intro fv
  induction fv with
  | zero => intro t y h1 h2 h3 h4; exfalso; omega
  | succ fv ih =>
    intro t y h1 h2 h3 h4
    rw [lp_X12_divides_3_4]
    by_cases c : y ≤ 0
    · simp only [if_pos c]; omega
    · simp only [if_neg c]
      have k : ¬ y.toInt ≤ 0 := wk_nle c
      by_cases d : (y - y / 3 * 3) = 0
      · simp only [if_pos d]
        have e1 := ra_inc (x := t) (by omega) h1
        have e2 : (y / 3).toInt = y.toInt / 3 := wk_div 3 rfl h2 (by decide)
        have h9 := ih (t + 1) (y / 3) (by omega) (by omega) (by omega) (by omega)
        omega
      · simp only [if_neg d]; omega
theorem ra_dvS3 (a b : Int32) : ∀ (fu fv : Nat) (h t y : Int32), (1 ≤ h.toInt ∧ h.toInt ≤ 4) → t.toInt + 1 = h.toInt → (0 ≤ y.toInt ∧ y.toInt ≤ 200) → 4 - h.toInt < (fu : Int) → y.toInt < (fv : Int) → (lp_X3_heightByDivisor_4 a 3 fu h y).1 = fn_X12_topped (1 + (lp_X12_divides_3_4 b fv t y).1) ∧ ra_H (lp_X3_heightByDivisor_4 a 3 fu h y).1 := by
  intro fu
  induction fu with
  | zero => intro fv h t y h1 h2 h3 h4; exfalso; omega
  | succ fu ih =>
    intro fv h t y h1 h2 h3 h4 h5
    rw [lp_X3_heightByDivisor_4]
    by_cases c4 : (4 : Int32) ≤ h
    · have k4 : 4 ≤ h.toInt := wk_le c4
      simp only [if_pos c4]
      have h9 := ra_dvR3 b fv t y (by omega) (by omega) (by omega) h5
      exact ⟨ra_top4 (by omega) (by omega) (by omega), h1⟩
    · have k4 : ¬ 4 ≤ h.toInt := wk_nle c4
      have n1 : ¬ (3 : Int32) ≤ 1 := by decide
      simp only [if_neg c4, if_neg n1]
      obtain ⟨fw, rfl⟩ : ∃ fw, fv = fw + 1 := ⟨fv - 1, by omega⟩
      rw [lp_X12_divides_3_4]
      by_cases c : y ≤ 0
      · simp only [if_pos c]
        exact ⟨ra_top h2 h1.2 (by omega), h1⟩
      · simp only [if_neg c]
        have k : ¬ y.toInt ≤ 0 := wk_nle c
        by_cases d : (y - y / 3 * 3) = 0
        · simp only [if_pos d]
          have e1 := ra_inc (x := t) (by omega) (by omega)
          have e3 := ra_inc (x := h) (by omega) (by omega)
          have e2 : (y / 3).toInt = y.toInt / 3 := wk_div 3 rfl h3.1 (by decide)
          exact ih fw (h + 1) (t + 1) (y / 3) (by omega) (by omega) (by omega) (by omega) (by omega)
        · simp only [if_neg d]
          exact ⟨ra_top h2 h1.2 (by omega), h1⟩
theorem ra_dv3 {y : Int32} (h : 0 ≤ y.toInt ∧ y.toInt ≤ 200) : fn_X3_heightByDivisor y 3 = fn_X12_topped (1 + fn_X12_divides_3 y) ∧ ra_H (fn_X3_heightByDivisor y 3) := by
  unfold fn_X3_heightByDivisor fn_X12_divides_3
  rw [ra_pm2, ra_pm2]
  exact ra_dvS3 y y 6 4294967296 1 0 y ⟨by decide, by decide⟩ rfl h (by decide) (by omega)
theorem ra_hb {lc : Nat} {ml : Int32} (hk : ra_kind lc ml) {f h : Nat → Int32} {x : Int32} (hx : 0 ≤ x.toInt ∧ x.toInt ≤ 7) (kK : ra_K (f x.toNatClampNeg)) (kH : ra_H (h x.toNatClampNeg)) : fn_law_heightOf lc (f x.toNatClampNeg) x (h x.toNatClampNeg) = fn_X12_heightBy ml f h x ∧ ra_H (fn_law_heightOf lc (f x.toNatClampNeg) x (h x.toNatClampNeg)) := by
  obtain ⟨y, ey⟩ : ∃ y : Int32, y = f x.toNatClampNeg := ⟨_, rfl⟩
  have kk : 0 ≤ y.toInt ∧ y.toInt ≤ 99 := by rw [ey]; exact kK
  have e1 := ra_inc (x := y) (by omega) (by omega)
  have e2 := ra_inc (x := x) (by omega) (by omega)
  unfold fn_law_heightOf fn_X12_heightBy
  rw [← ey]
  rcases hk with ⟨rfl, rfl⟩ | ⟨rfl, rfl⟩ | ⟨rfl, rfl⟩ | ⟨rfl, rfl⟩ | ⟨rfl, rfl⟩
  · rw [if_neg (show ¬ (3 : Nat) = 0 by decide), if_neg (show ¬ (3 : Nat) = 1 by decide), if_pos (show (3 : Nat) = 3 from rfl), if_neg (show ¬ (0 : Int32) = 1 by decide), if_neg (show ¬ (0 : Int32) = 2 by decide), if_neg (show ¬ (0 : Int32) = 3 by decide), if_neg (show ¬ (0 : Int32) = 4 by decide)]
    exact ⟨rfl, kH⟩
  · rw [if_neg (show ¬ (1 : Nat) = 0 by decide), if_pos (show (1 : Nat) = 1 from rfl), if_pos (show (1 : Int32) = 1 from rfl)]
    exact ra_dv2 (y := y + 1) (by omega)
  · rw [if_neg (show ¬ (5 : Nat) = 0 by decide), if_neg (show ¬ (5 : Nat) = 1 by decide), if_neg (show ¬ (5 : Nat) = 3 by decide), if_pos (show (5 : Nat) = 5 from rfl), if_neg (show ¬ (2 : Int32) = 1 by decide), if_pos (show (2 : Int32) = 2 from rfl)]
    refine ⟨rfl, ?_⟩
    unfold fn_X5_heightOf
    have g1 : (y / 10).toInt = y.toInt / 10 := wk_div 10 rfl kk.1 (by decide)
    have g2 : (y - y / 10 * 10).toInt = y.toInt % 10 := wk_rem 10 rfl kk.1 (by decide)
    obtain ⟨z, ez⟩ : ∃ z : Int32, z = (y / 10) + (y - y / 10 * 10) := ⟨_, rfl⟩
    have g3 : z.toInt = y.toInt / 10 + y.toInt % 10 := by rw [ez]; exact wk_add _ _ g1 g2 (by omega) (by omega)
    rw [← ez]
    have g4 : (z - z / 4 * 4).toInt = z.toInt % 4 := wk_rem 4 rfl (by omega) (by decide)
    have g5 : (1 + (z - z / 4 * 4)).toInt = 1 + z.toInt % 4 := wk_add 1 _ rfl g4 (by omega) (by omega)
    exact ⟨by omega, by omega⟩
  · rw [if_pos (show (0 : Nat) = 0 from rfl), if_neg (show ¬ (3 : Int32) = 1 by decide), if_neg (show ¬ (3 : Int32) = 2 by decide), if_pos (show (3 : Int32) = 3 from rfl)]
    exact ra_dv2 (y := x + 1) (by omega)
  · rw [if_neg (show ¬ (7 : Nat) = 0 by decide), if_neg (show ¬ (7 : Nat) = 1 by decide), if_neg (show ¬ (7 : Nat) = 3 by decide), if_neg (show ¬ (7 : Nat) = 5 by decide), if_neg (show ¬ (4 : Int32) = 1 by decide), if_neg (show ¬ (4 : Int32) = 2 by decide), if_neg (show ¬ (4 : Int32) = 3 by decide), if_pos (show (4 : Int32) = 4 from rfl)]
    exact ra_dv3 (y := y + 1) (by omega)
theorem ra_rtL {lc : Nat} {ml : Int32} (hk : ra_kind lc ml) {n : Int32} (hn : n.toInt ≤ 8) {f g h0 h1 : Nat → Int32} (hf : ra_ag ra_K n.toInt f g) : ∀ (fu : Nat) (x : Int32) (h h' : Nat → Int32), 0 ≤ x.toInt → x.toInt ≤ n.toInt → n.toInt - x.toInt < (fu : Int) → ra_ag ra_H n.toInt h h' → ra_ag ra_H n.toInt (lp_X11_raiseTowers_R_18 lc n f h0 fu x h).2 (lp_X12_layHeights_2 ml n g h1 fu x h').2 := by
  intro fu
  induction fu with
  | zero => intro x h h' k1 k2 k3; exfalso; omega
  | succ fu ih =>
    intro x h h' k1 k2 k3 k4
    rw [lp_X11_raiseTowers_R_18, lp_X12_layHeights_2]
    by_cases c : n ≤ x
    · simp only [if_pos c]; exact k4
    · simp only [if_neg c]
      have k := wk_nle c
      have e := ra_inc (x := x) (by omega) k1
      obtain ⟨a1, a2⟩ := ra_at hf k1 (by omega)
      obtain ⟨b1, b2⟩ := ra_at k4 k1 (by omega)
      rw [a1] at a2
      rw [b1] at b2
      have h9 := ra_hb hk (f := g) (h := h') (x := x) (by omega) a2 b2
      rw [a1, b1]
      exact ih (x + 1) _ _ (by omega) (by omega) (by omega) (ra_upd k4 _ h9.1 h9.2)
theorem ra_rt {lc : Nat} {ml : Int32} (hk : ra_kind lc ml) {n : Int32} (hn : 0 ≤ n.toInt ∧ n.toInt ≤ 8) {f g h h' : Nat → Int32} (hf : ra_ag ra_K n.toInt f g) (hh : ra_ag ra_H n.toInt h h') : ra_ag ra_H n.toInt (fn_X11_raiseTowers_R lc n f h) (fn_X12_layHeights ml n g h') := by
  unfold fn_X11_raiseTowers_R fn_X12_layHeights
  rw [ra_pm2, ra_pm2]
  exact ra_rtL hk hn.2 hf 10 0 h h' (by decide) hn.1 (by have h9 : (0 : Int32).toInt = 0 := rfl; omega) hh
