def ra_mi (P : Int32 → Prop) (S x : Int) (f g : Nat → Int32) : Prop := ∀ i : Nat, ((i : Int) < S ∨ (x < (i : Int) ∧ (i : Int) ≤ S)) → f i = g i ∧ P (f i)
theorem ra_miS {P : Int32 → Prop} {S : Int} {f g : Nat → Int32} {x y : Int32} (h : ra_mi P S x.toInt f g) (h1 : 1 ≤ x.toInt) (hS : x.toInt ≤ S) (hy : y.toInt = x.toInt - 1) : ra_mi P S (x.toInt - 1) (upd f x.toNatClampNeg (f y.toNatClampNeg)) (upd g x.toNatClampNeg (g y.toNatClampNeg)) := by
  intro i hi
  have ex := ra_ix (x := x) (by omega)
  have ey := ra_ix (x := y) (by omega)
  by_cases q : i = x.toNatClampNeg
  · rw [q, ra_ua, ra_ua]
    exact h _ (Or.inl (by omega))
  · rw [ra_un _ _ q, ra_un _ _ q]
    exact h i (by omega)
theorem ra_miE {P : Int32 → Prop} {S : Int} {f g : Nat → Int32} {a v : Int32} (h : ra_mi P S a.toInt f g) (h0 : 0 ≤ a.toInt) (hS : a.toInt ≤ S) (hv : P v) : ra_ag P (S + 1) (upd f a.toNatClampNeg v) (upd g a.toNatClampNeg v) := by
  intro i hi
  have ea := ra_ix (x := a) h0
  by_cases q : i = a.toNatClampNeg
  · rw [q, ra_ua, ra_ua]
    exact ⟨rfl, hv⟩
  · rw [ra_un _ _ q, ra_un _ _ q]
    exact h i (by omega)
theorem ra_insL {P1 P2 P3 P4 : Int32 → Prop} {S a b d e1 : Int32} {k0 v0 h0 t0 k1 v1 h1 t1 : Nat → Int32} (hS : S.toInt ≤ 8) (ha : 0 ≤ a.toInt) : ∀ (fu : Nat) (x : Int32) (K K' V V' H H' T T' : Nat → Int32), a.toInt ≤ x.toInt → x.toInt ≤ S.toInt → x.toInt - a.toInt < (fu : Int) → ra_mi P1 S.toInt x.toInt K K' → ra_mi P2 S.toInt x.toInt V V' → ra_mi P3 S.toInt x.toInt H H' → ra_mi P4 S.toInt x.toInt T T' →
    ∃ (K2 V2 H2 T2 K3 V3 H3 T3 : Nat → Int32), lp_X8_insert_28 S k0 v0 h0 t0 a b d e1 fu x K V H T = (a, K2, V2, H2, T2) ∧ lp_X12_moveUp_5 S k1 v1 h1 t1 a fu x K' V' H' T' = (a, K3, V3, H3, T3) ∧ ra_mi P1 S.toInt a.toInt K2 K3 ∧ ra_mi P2 S.toInt a.toInt V2 V3 ∧ ra_mi P3 S.toInt a.toInt H2 H3 ∧ ra_mi P4 S.toInt a.toInt T2 T3 := by
  intro fu
  induction fu with
  | zero => intro x K K' V V' H H' T T' g1 g2 g3; exfalso; omega
  | succ fu ih =>
    intro x K K' V V' H H' T T' g1 g2 g3 i1 i2 i3 i4
    rw [lp_X8_insert_28, lp_X12_moveUp_5]
    by_cases c : x ≤ a
    · have k : x.toInt ≤ a.toInt := wk_le c
      have e : x = a := Int32.toInt_inj.mp (by omega)
      subst e
      simp only [if_pos c]
      exact ⟨K, V, H, T, K', V', H', T', rfl, rfl, i1, i2, i3, i4⟩
    · have k : ¬ x.toInt ≤ a.toInt := wk_nle c
      simp only [if_neg c, fn_X8_fill_s, ra_pm2]
      have e1 := ra_dec (x := x) (by omega)
      have e2 : (x - 1).toInt = x.toInt - 1 := wk_sub x.toInt 1 rfl rfl (by omega) (by omega)
      have j1 := ra_miS i1 (by omega) g2 e2
      have j2 := ra_miS i2 (by omega) g2 e2
      have j3 := ra_miS i3 (by omega) g2 e2
      have j4 := ra_miS i4 (by omega) g2 e2
      rw [← e1] at j1 j2 j3 j4
      exact ih (x + (-1)) _ _ _ _ _ _ _ _ (by omega) (by omega) (by omega) j1 j2 j3 j4
theorem ra_mi0 {P : Int32 → Prop} {S : Int} {f g : Nat → Int32} (h : ra_ag P S f g) : ra_mi P S S f g := fun i hi => h i (by omega)
theorem ra_ins {P1 P2 P3 P4 : Int32 → Prop} {S a b d e1 : Int32} {K K' V V' H H' T T' : Nat → Int32} (hS : 0 ≤ S.toInt ∧ S.toInt ≤ 7) (ha : 0 ≤ a.toInt ∧ a.toInt ≤ S.toInt) (i1 : ra_ag P1 S.toInt K K') (i2 : ra_ag P2 S.toInt V V') (i3 : ra_ag P3 S.toInt H H') (i4 : ra_ag P4 S.toInt T T') (p1 : P1 b) (p2 : P2 d) (p3 : P3 e1) (p4 : P4 0) :
    ∃ (K2 V2 H2 T2 K3 V3 H3 T3 : Nat → Int32), fn_X8_insert S K V H T a b d e1 = (S + 1, K2, V2, H2, T2) ∧ fn_X12_moveUp S K' V' H' T' a = (S + 1, K3, V3, H3, T3) ∧ ra_ag P1 (S.toInt + 1) K2 (upd K3 a.toNatClampNeg b) ∧ ra_ag P2 (S.toInt + 1) V2 (upd V3 a.toNatClampNeg d) ∧ ra_ag P3 (S.toInt + 1) H2 (upd H3 a.toNatClampNeg e1) ∧ ra_ag P4 (S.toInt + 1) T2 (upd T3 a.toNatClampNeg 0) := by
  obtain ⟨K2, V2, H2, T2, K3, V3, H3, T3, q1, q2, j1, j2, j3, j4⟩ := ra_insL (S := S) (a := a) (b := b) (d := d) (e1 := e1) (k0 := K) (v0 := V) (h0 := H) (t0 := T) (k1 := K') (v1 := V') (h1 := H') (t1 := T') (by omega) ha.1 10 S K K' V V' H H' T T' ha.2 (Int.le_refl _) (by omega) (ra_mi0 i1) (ra_mi0 i2) (ra_mi0 i3) (ra_mi0 i4)
  refine ⟨upd K2 a.toNatClampNeg b, upd V2 a.toNatClampNeg d, upd H2 a.toNatClampNeg e1, upd T2 a.toNatClampNeg 0, K3, V3, H3, T3, ?_, ?_, ra_miE j1 ha.1 ha.2 p1, ra_miE j2 ha.1 ha.2 p2, ra_miE j3 ha.1 ha.2 p3, ra_miE j4 ha.1 ha.2 p4⟩
  · unfold fn_X8_insert
    rw [if_neg (fun q => by have k : a.toInt < 0 := wk_lt q; omega), if_neg (fun q => by have k : S.toInt < a.toInt := wk_lt q; omega), if_pos (show S < 8 from Int32.lt_iff_toInt_lt.mpr (by show S.toInt < 8; omega)), q1]
    simp only [ra_pm2]
  · unfold fn_X12_moveUp
    rw [q2]
    simp only [ra_pm2]
theorem ra_outL {P1 P2 P3 P4 : Int32 → Prop} {S a : Int32} {k0 v0 h0 t0 k1 v1 h1 t1 : Nat → Int32} (hS : 1 ≤ S.toInt ∧ S.toInt ≤ 8) : ∀ (fu : Nat) (x : Int32) (K K' V V' H H' T T' : Nat → Int32), 0 ≤ x.toInt → x.toInt ≤ S.toInt → S.toInt - x.toInt < (fu : Int) → ra_ag P1 S.toInt K K' → ra_ag P2 S.toInt V V' → ra_ag P3 S.toInt H H' → ra_ag P4 S.toInt T T' →
    ∃ (x2 : Int32) (K2 V2 H2 T2 K3 V3 H3 T3 : Nat → Int32), lp_X8_takeOut_2 S k0 v0 h0 t0 a fu x K V H T = (x2, K2, V2, H2, T2) ∧ lp_X12_moveDown_12 S k1 v1 h1 t1 a fu x K' V' H' T' = (x2, K3, V3, H3, T3) ∧ ra_ag P1 S.toInt K2 K3 ∧ ra_ag P2 S.toInt V2 V3 ∧ ra_ag P3 S.toInt H2 H3 ∧ ra_ag P4 S.toInt T2 T3 := by
  intro fu
  induction fu with
  | zero => intro x K K' V V' H H' T T' g1 g2 g3; exfalso; omega
  | succ fu ih =>
    intro x K K' V V' H H' T T' g1 g2 g3 i1 i2 i3 i4
    rw [lp_X8_takeOut_2, lp_X12_moveDown_12]
    have e1 := ra_inc (x := x) (by omega) g1
    have e2 : (S - 1).toInt = S.toInt - 1 := wk_sub S.toInt 1 rfl rfl (by omega) (by omega)
    by_cases c : S ≤ (x + 1)
    · have k := wk_le c
      have c2 : (S - 1) ≤ x := Int32.le_iff_toInt_le.mpr (by omega)
      simp only [if_pos c, if_pos c2]
      exact ⟨x, K, V, H, T, K', V', H', T', rfl, rfl, i1, i2, i3, i4⟩
    · have k := wk_nle c
      have c2 : ¬ (S - 1) ≤ x := fun q => by have k2 := wk_le q; omega
      simp only [if_neg c, if_neg c2, fn_X8_fill_s, ra_pm2]
      obtain ⟨a1, a2⟩ := ra_at i1 (x := x + 1) (by omega) (by omega)
      obtain ⟨b1, b2⟩ := ra_at i2 (x := x + 1) (by omega) (by omega)
      obtain ⟨c1, c2⟩ := ra_at i3 (x := x + 1) (by omega) (by omega)
      obtain ⟨d1, d2⟩ := ra_at i4 (x := x + 1) (by omega) (by omega)
      exact ih (x + 1) _ _ _ _ _ _ _ _ (by omega) (by omega) (by omega) (ra_upd i1 _ a1 a2) (ra_upd i2 _ b1 b2) (ra_upd i3 _ c1 c2) (ra_upd i4 _ d1 d2)
theorem ra_out {P1 P2 P3 P4 : Int32 → Prop} {S a : Int32} {K K' V V' H H' T T' : Nat → Int32} (hS : 1 ≤ S.toInt ∧ S.toInt ≤ 8) (ha : 0 ≤ a.toInt ∧ a.toInt ≤ S.toInt) (i1 : ra_ag P1 S.toInt K K') (i2 : ra_ag P2 S.toInt V V') (i3 : ra_ag P3 S.toInt H H') (i4 : ra_ag P4 S.toInt T T') :
    ∃ (K2 V2 H2 T2 K3 V3 H3 T3 : Nat → Int32), fn_X8_takeOut S K V H T a = (S - 1, K2, V2, H2, T2) ∧ fn_X12_moveDown S K' V' H' T' a = (S - 1, K3, V3, H3, T3) ∧ ra_ag P1 (S.toInt - 1) K2 K3 ∧ ra_ag P2 (S.toInt - 1) V2 V3 ∧ ra_ag P3 (S.toInt - 1) H2 H3 ∧ ra_ag P4 (S.toInt - 1) T2 T3 := by
  obtain ⟨x2, K2, V2, H2, T2, K3, V3, H3, T3, q1, q2, j1, j2, j3, j4⟩ := ra_outL (S := S) (a := a) (k0 := K) (v0 := V) (h0 := H) (t0 := T) (k1 := K') (v1 := V') (h1 := H') (t1 := T') hS 10 a K K' V V' H H' T T' ha.1 ha.2 (by omega) i1 i2 i3 i4
  refine ⟨K2, V2, H2, T2, K3, V3, H3, T3, ?_, ?_, ra_less j1 (by omega), ra_less j2 (by omega), ra_less j3 (by omega), ra_less j4 (by omega)⟩
  · unfold fn_X8_takeOut
    rw [q1]
    simp only [ra_pm2]
  · unfold fn_X12_moveDown
    rw [q2]
    simp only [ra_pm2]
theorem ra_ac {y : Int32} (h : 0 ≤ y.toInt ∧ y.toInt ≤ 100) : (y + 1) - 1 = y := by
  have e1 := ra_inc (x := y) (by omega) h.1
  have e2 : ((y + 1) - 1).toInt = (y + 1).toInt - 1 := wk_sub _ 1 rfl rfl (by omega) (by omega)
  exact Int32.toInt_inj.mp (by omega)
theorem ra_splL {P1 P2 P3 P4 : Int32 → Prop} {n a m0 m1 m2 : Int32} {k v h t k' v' h' t' ka va ha ta kb vb hb tb : Nat → Int32} {pl : Int32} (ep : fn_X12_placeOf n k' a = pl) (hn : n.toInt ≤ 8) (hp : 0 ≤ pl.toInt ∧ pl.toInt ≤ n.toInt) (j1 : ra_ag P1 n.toInt k k') (j2 : ra_ag P2 n.toInt v v') (j3 : ra_ag P3 n.toInt h h') (j4 : ra_ag P4 n.toInt t t') :
    ∀ (fu : Nat) (x y : Int32) (K K' V V' H H' T T' : Nat → Int32), 0 ≤ y.toInt → x.toInt = pl.toInt + y.toInt → x.toInt ≤ n.toInt → n.toInt - x.toInt < (fu : Int) → ra_ag P1 y.toInt K K' → ra_ag P2 y.toInt V V' → ra_ag P3 y.toInt H H' → ra_ag P4 y.toInt T T' →
    ∃ (x3 x4 : Int32) (K2 V2 H2 T2 K3 V3 H3 T3 : Nat → Int32), lp_X8_append_2 0 ka va ha ta n k v h t pl fu x y K V H T = (x3, n - pl, K2, V2, H2, T2) ∧ lp_X12_split_58 m0 n m1 m2 k' v' h' t' kb vb hb tb a fu y K' V' H' T' = (x4, K3, V3, H3, T3) ∧ ra_ag P1 (n.toInt - pl.toInt) K2 K3 ∧ ra_ag P2 (n.toInt - pl.toInt) V2 V3 ∧ ra_ag P3 (n.toInt - pl.toInt) H2 H3 ∧ ra_ag P4 (n.toInt - pl.toInt) T2 T3 := by
  have e3 : (n - pl).toInt = n.toInt - pl.toInt := wk_sub n.toInt pl.toInt rfl rfl (by omega) (by omega)
  intro fu
  induction fu with
  | zero => intro x y K K' V V' H H' T T' g0 g1 g2 g3; exfalso; omega
  | succ fu ih =>
    intro x y K K' V V' H H' T T' g0 g1 g2 g3 i1 i2 i3 i4
    rw [lp_X8_append_2, lp_X12_split_58, ep]
    by_cases c : n ≤ x
    · have k := wk_le c
      have c2 : (n - pl) ≤ y := Int32.le_iff_toInt_le.mpr (by omega)
      have ey : y = n - pl := Int32.toInt_inj.mp (by omega)
      simp only [if_pos c, if_pos c2]
      refine ⟨x, y, K, V, H, T, K', V', H', T', by rw [ey], rfl, ?_, ?_, ?_, ?_⟩
      · exact ra_less i1 (by omega)
      · exact ra_less i2 (by omega)
      · exact ra_less i3 (by omega)
      · exact ra_less i4 (by omega)
    · have kx := wk_nle c
      have c2 : ¬ (n - pl) ≤ y := fun q => by have k2 := wk_le q; omega
      have c3 : ¬ (8 : Int32) ≤ y := fun q => by have k2 : 8 ≤ y.toInt := wk_le q; omega
      simp only [if_neg c, if_neg c2, if_neg c3, fn_X8_fill, ra_pm2]
      have e1 := ra_inc (x := x) (by omega) (by omega)
      have e2 := ra_inc (x := y) (by omega) g0
      have ex : pl + y = x := Int32.toInt_inj.mp (by rw [wk_add pl.toInt y.toInt rfl rfl (by omega) (by omega)]; omega)
      have iy := ra_ix (x := y) g0
      rw [ra_ac (y := y) (by omega), ex]
      obtain ⟨a1, a2⟩ := ra_at j1 (x := x) (by omega) (by omega)
      obtain ⟨b1, b2⟩ := ra_at j2 (x := x) (by omega) (by omega)
      obtain ⟨c1, c2⟩ := ra_at j3 (x := x) (by omega) (by omega)
      obtain ⟨d1, d2⟩ := ra_at j4 (x := x) (by omega) (by omega)
      exact ih (x + 1) (y + 1) _ _ _ _ _ _ _ _ (by omega) (by omega) (by omega) (by omega) (ra_snoc i1 iy e2 a1 a2) (ra_snoc i2 iy e2 b1 b2) (ra_snoc i3 iy e2 c1 c2) (ra_snoc i4 iy e2 d1 d2)
theorem ra_joiL {P1 P2 P3 P4 : Int32 → Prop} {n s m0 m1 : Int32} {k v h t k' v' h' t' ka va ha ta kb vb hb tb : Nat → Int32} (hn : 0 ≤ n.toInt) (hs : 0 ≤ s.toInt) (hns : n.toInt + s.toInt ≤ 8) (j1 : ra_ag P1 s.toInt k k') (j2 : ra_ag P2 s.toInt v v') (j3 : ra_ag P3 s.toInt h h') (j4 : ra_ag P4 s.toInt t t') :
    ∀ (fu : Nat) (x y : Int32) (K K' V V' H H' T T' : Nat → Int32), 0 ≤ x.toInt → y.toInt = n.toInt + x.toInt → x.toInt ≤ s.toInt → s.toInt - x.toInt < (fu : Int) → ra_ag P1 y.toInt K K' → ra_ag P2 y.toInt V V' → ra_ag P3 y.toInt H H' → ra_ag P4 y.toInt T T' →
    ∃ (x3 x4 : Int32) (K2 V2 H2 T2 K3 V3 H3 T3 : Nat → Int32), lp_X8_append_2 n ka va ha ta s k v h t 0 fu x y K V H T = (x3, n + s, K2, V2, H2, T2) ∧ lp_X12_join_49 m0 n m1 s kb vb hb tb k' v' h' t' fu x K' V' H' T' = (x4, K3, V3, H3, T3) ∧ ra_ag P1 (n.toInt + s.toInt) K2 K3 ∧ ra_ag P2 (n.toInt + s.toInt) V2 V3 ∧ ra_ag P3 (n.toInt + s.toInt) H2 H3 ∧ ra_ag P4 (n.toInt + s.toInt) T2 T3 := by
  have e3 : (n + s).toInt = n.toInt + s.toInt := wk_add n.toInt s.toInt rfl rfl (by omega) (by omega)
  intro fu
  induction fu with
  | zero => intro x y K K' V V' H H' T T' g0 g1 g2 g3; exfalso; omega
  | succ fu ih =>
    intro x y K K' V V' H H' T T' g0 g1 g2 g3 i1 i2 i3 i4
    rw [lp_X8_append_2, lp_X12_join_49]
    by_cases c : s ≤ x
    · have k := wk_le c
      have ey : y = n + s := Int32.toInt_inj.mp (by omega)
      simp only [if_pos c]
      refine ⟨x, x, K, V, H, T, K', V', H', T', by rw [ey], rfl, ?_, ?_, ?_, ?_⟩
      · exact ra_less i1 (by omega)
      · exact ra_less i2 (by omega)
      · exact ra_less i3 (by omega)
      · exact ra_less i4 (by omega)
    · have kx := wk_nle c
      have c3 : ¬ (8 : Int32) ≤ y := fun q => by have k2 : 8 ≤ y.toInt := wk_le q; omega
      simp only [if_neg c, if_neg c3, fn_X8_fill, ra_pm2]
      have e1 := ra_inc (x := x) (by omega) (by omega)
      have e2 := ra_inc (x := y) (by omega) (by omega)
      have ex : n + x = y := Int32.toInt_inj.mp (by rw [wk_add n.toInt x.toInt rfl rfl (by omega) (by omega)]; omega)
      have iy := ra_ix (x := y) (by omega)
      rw [ra_ac (y := y) (by omega), ex]
      obtain ⟨a1, a2⟩ := ra_at j1 (x := x) (by omega) (by omega)
      obtain ⟨b1, b2⟩ := ra_at j2 (x := x) (by omega) (by omega)
      obtain ⟨c1, c2⟩ := ra_at j3 (x := x) (by omega) (by omega)
      obtain ⟨d1, d2⟩ := ra_at j4 (x := x) (by omega) (by omega)
      exact ih (x + 1) (y + 1) _ _ _ _ _ _ _ _ (by omega) (by omega) (by omega) (by omega) (ra_snoc i1 iy e2 a1 a2) (ra_snoc i2 iy e2 b1 b2) (ra_snoc i3 iy e2 c1 c2) (ra_snoc i4 iy e2 d1 d2)
theorem ra_cpyL {P1 P2 P3 P4 : Int32 → Prop} {n : Int32} {k v h t k' v' h' t' ka va ha ta : Nat → Int32} (hn : n.toInt ≤ 8) (j1 : ra_ag P1 n.toInt k k') (j2 : ra_ag P2 n.toInt v v') (j3 : ra_ag P3 n.toInt h h') (j4 : ra_ag P4 n.toInt t t') :
    ∀ (fu : Nat) (x : Int32) (K V H T : Nat → Int32), 0 ≤ x.toInt → x.toInt ≤ n.toInt → n.toInt - x.toInt < (fu : Int) → ra_ag P1 x.toInt K k' → ra_ag P2 x.toInt V v' → ra_ag P3 x.toInt H h' → ra_ag P4 x.toInt T t' →
    ∃ (K2 V2 H2 T2 : Nat → Int32), lp_X8_append_2 0 ka va ha ta n k v h t 0 fu x x K V H T = (n, n, K2, V2, H2, T2) ∧ ra_ag P1 n.toInt K2 k' ∧ ra_ag P2 n.toInt V2 v' ∧ ra_ag P3 n.toInt H2 h' ∧ ra_ag P4 n.toInt T2 t' := by
  intro fu
  induction fu with
  | zero => intro x K V H T g1 g2 g3; exfalso; omega
  | succ fu ih =>
    intro x K V H T g1 g2 g3 i1 i2 i3 i4
    rw [lp_X8_append_2]
    by_cases c : n ≤ x
    · have k := wk_le c
      have ey : x = n := Int32.toInt_inj.mp (by omega)
      simp only [if_pos c]
      subst ey
      exact ⟨K, V, H, T, rfl, i1, i2, i3, i4⟩
    · have kx := wk_nle c
      have c3 : ¬ (8 : Int32) ≤ x := fun q => by have k2 : 8 ≤ x.toInt := wk_le q; omega
      simp only [if_neg c, if_neg c3, fn_X8_fill, ra_pm2]
      have e2 := ra_inc (x := x) (by omega) g1
      have iy := ra_ix (x := x) g1
      rw [ra_ac (y := x) (by omega)]
      obtain ⟨a1, a2⟩ := ra_at j1 (x := x) (by omega) (by omega)
      obtain ⟨b1, b2⟩ := ra_at j2 (x := x) (by omega) (by omega)
      obtain ⟨c1, c2⟩ := ra_at j3 (x := x) (by omega) (by omega)
      obtain ⟨d1, d2⟩ := ra_at j4 (x := x) (by omega) (by omega)
      have u1 := ra_snoc i1 iy e2 a1 a2
      have u2 := ra_snoc i2 iy e2 b1 b2
      have u3 := ra_snoc i3 iy e2 c1 c2
      have u4 := ra_snoc i4 iy e2 d1 d2
      rw [wk_upds] at u1 u2 u3 u4
      exact ih (x + 1) _ _ _ _ (by omega) (by omega) (by omega) u1 u2 u3 u4
theorem ra_cpy {P1 P2 P3 P4 : Int32 → Prop} {n m : Int32} {k v h t k' v' h' t' K V H T : Nat → Int32} (hn : 0 ≤ n.toInt ∧ n.toInt ≤ 8) (j1 : ra_ag P1 n.toInt k k') (j2 : ra_ag P2 n.toInt v v') (j3 : ra_ag P3 n.toInt h h') (j4 : ra_ag P4 n.toInt t t') :
    ∃ (K2 V2 H2 T2 : Nat → Int32), fn_X8_copyFrom m K V H T n k v h t = (n, K2, V2, H2, T2) ∧ ra_ag P1 n.toInt K2 k' ∧ ra_ag P2 n.toInt V2 v' ∧ ra_ag P3 n.toInt H2 h' ∧ ra_ag P4 n.toInt T2 t' := by
  have z : (0 : Int32).toInt = 0 := rfl
  obtain ⟨K2, V2, H2, T2, q, r⟩ := ra_cpyL (ka := K) (va := V) (ha := H) (ta := T) hn.2 j1 j2 j3 j4 10 0 K V H T (by omega) (by omega) (by omega) (ra_nil (by omega)) (ra_nil (by omega)) (ra_nil (by omega)) (ra_nil (by omega))
  refine ⟨K2, V2, H2, T2, ?_, r⟩
  unfold fn_X8_copyFrom fn_X8_append
  rw [q]
  simp only [ra_pm2]
theorem ra_cpL {f u0 : Nat → Int32} : ∀ (fu : Nat) (x : Int32) (g : Nat → Int32), 0 ≤ x.toInt → x.toInt ≤ 8 → 8 - x.toInt < (fu : Int) → (∀ i : Nat, (i : Int) < x.toInt → g i = f i) → ∀ i : Nat, (i : Int) < 8 → (lp_X12_copy_2 f u0 fu x g).2 i = f i := by
  intro fu
  induction fu with
  | zero => intro x g g1 g2 g3; exfalso; omega
  | succ fu ih =>
    intro x g g1 g2 g3 h i hi
    rw [lp_X12_copy_2]
    by_cases c : (8 : Int32) ≤ x
    · have k : 8 ≤ x.toInt := wk_le c
      simp only [if_pos c]
      exact h i (by omega)
    · have k : ¬ 8 ≤ x.toInt := wk_nle c
      simp only [if_neg c]
      have e2 := ra_inc (x := x) (by omega) g1
      have iy := ra_ix (x := x) g1
      refine ih (x + 1) _ (by omega) (by omega) (by omega) ?_ i hi
      intro j hj
      by_cases q : j = x.toNatClampNeg
      · rw [q, ra_ua]
      · rw [ra_un _ _ q]
        exact h j (by omega)
theorem ra_cp (f g : Nat → Int32) : ∀ i : Nat, (i : Int) < 8 → fn_X12_copy f g i = f i := by
  intro i hi
  unfold fn_X12_copy
  rw [ra_pm2]
  exact ra_cpL 10 0 g (by decide) (by decide) (by decide) (fun j hj => by have z : (0 : Int32).toInt = 0 := rfl; omega) i hi
theorem ra_cpR {P : Int32 → Prop} {n : Int} {f g u : Nat → Int32} (hn : n ≤ 8) (h : ra_ag P n f g) : ra_ag P n f (fn_X12_copy g u) := by
  intro i hi
  rw [ra_cp g u i (by omega)]
  exact h i hi
