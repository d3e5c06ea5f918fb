theorem ra_seL {s n : Int32} {a b c oa ob oc : Nat → Int32} (hn : n.toInt ≤ 6) : ∀ (fu : Nat) (x : Int32) (A B C : Nat → Int32), 0 ≤ x.toInt → x.toInt ≤ n.toInt → n.toInt - x.toInt < (fu : Int) → ∃ (A2 B2 C2 : Nat → Int32), lp_X4_copyFrom_7 s a b c n oa ob oc fu x x A B C = (n, n, A2, B2, C2) := by
  intro fu
  induction fu with
  | zero => intro x A B C g1 g2 g3; exfalso; omega
  | succ fu ih =>
    intro x A B C g1 g2 g3
    rw [lp_X4_copyFrom_7]
    by_cases c : n ≤ x
    · have k := wk_le c
      have ey : x = n := Int32.toInt_inj.mp (by omega)
      subst ey
      simp only [if_pos c]
      exact ⟨A, B, C, rfl⟩
    · have k := wk_nle c
      have c6 : ¬ (6 : Int32) ≤ x := fun q => by have q1 : 6 ≤ x.toInt := wk_le q; omega
      simp only [if_neg c, fn_X4_add, if_neg c6, ra_pm2]
      have e := ra_inc (x := x) (by omega) g1
      exact ih (x + 1) _ _ _ (by omega) (by omega) (by omega)
theorem ra_se {s n : Int32} {a b c oa ob oc : Nat → Int32} (hn : 0 ≤ n.toInt ∧ n.toInt ≤ 6) : ∃ (A2 B2 C2 : Nat → Int32), fn_X4_copyFrom s a b c n oa ob oc = (n, A2, B2, C2) := by
  have z : (0 : Int32).toInt = 0 := rfl
  obtain ⟨A2, B2, C2, q⟩ := ra_seL (s := s) (n := n) (a := a) (b := b) (c := c) (oa := oa) (ob := ob) (oc := oc) hn.2 8 0 a b c (by omega) (by omega) (by omega)
  refine ⟨A2, B2, C2, ?_⟩
  unfold fn_X4_copyFrom
  rw [q]
  simp only [ra_pm2]
theorem ra_kcp {q1 q2 q3 q4 q5 q6 as ls ch n s e : Int32} {K V H T SK SV SH ST A B C k v h t sk sv sh st ea eb ec k' v' h' t' sk' sv' sh' st' : Nat → Int32} (hT : ra_T n k v h t n k' v' h' t') (hU : ra_T s sk sv sh st s sk' sv' sh' st') (he : 0 ≤ e.toInt ∧ e.toInt ≤ 6) :
    ∃ (K2 V2 H2 T2 SK2 SV2 SH2 ST2 A2 B2 C2 : Nat → Int32), fn_X2_copyFrom q1 q2 q3 q4 K V H T q5 SK SV SH ST q6 A B C as ls ch n k v h t s sk sv sh st e ea eb ec = (as, ls, ch, n, K2, V2, H2, T2, s, SK2, SV2, SH2, ST2, e, A2, B2, C2) ∧ ra_T n K2 V2 H2 T2 n k' v' h' t' ∧ ra_T s SK2 SV2 SH2 ST2 s sk' sv' sh' st' := by
  obtain ⟨-, hn, i1, i2, i3, i4⟩ := hT
  obtain ⟨-, hs, u1, u2, u3, u4⟩ := hU
  obtain ⟨K2, V2, H2, T2, c1, j1, j2, j3, j4⟩ := ra_cpy (m := q4) (K := K) (V := V) (H := H) (T := T) hn i1 i2 i3 i4
  obtain ⟨SK2, SV2, SH2, ST2, c2, w1, w2, w3, w4⟩ := ra_cpy (m := q5) (K := SK) (V := SV) (H := SH) (T := ST) hs u1 u2 u3 u4
  obtain ⟨A2, B2, C2, c3⟩ := ra_se (s := q6) (n := e) (a := A) (b := B) (c := C) (oa := ea) (ob := eb) (oc := ec) he
  refine ⟨K2, V2, H2, T2, SK2, SV2, SH2, ST2, A2, B2, C2, ?_, ⟨rfl, hn, j1, j2, j3, j4⟩, ⟨rfl, hs, w1, w2, w3, w4⟩⟩
  unfold fn_X2_copyFrom
  rw [c1, c2, c3]
  simp only [ra_pm2]
theorem ra_Tcp {n : Int32} {k v h t k' v' h' t' a b c d : Nat → Int32} (hT : ra_T n k v h t n k' v' h' t') : ra_T n k v h t n (fn_X12_copy k' a) (fn_X12_copy v' b) (fn_X12_copy h' c) (fn_X12_copy t' d) := by
  obtain ⟨-, hn, i1, i2, i3, i4⟩ := hT
  exact ⟨rfl, hn, ra_cpR hn.2 i1, ra_cpR hn.2 i2, ra_cpR hn.2 i3, ra_cpR hn.2 i4⟩
theorem ra_isNum {n a : Int32} (hn : 0 ≤ n.toInt ∧ n.toInt ≤ 8) : (fn_X11_namesNoKey n a = 0 ∧ ¬ fn_X12_isNumber n a = 0 ∧ 0 ≤ a.toInt ∧ a.toInt < n.toInt) ∨ (¬ fn_X11_namesNoKey n a = 0 ∧ fn_X12_isNumber n a = 0 ∧ ¬ (0 ≤ a.toInt ∧ a.toInt < n.toInt)) := by
  have e : (n - 1).toInt = n.toInt - 1 := wk_sub n.toInt 1 rfl rfl (by omega) (by omega)
  unfold fn_X11_namesNoKey fn_X12_isNumber
  have h9 := ra_in (a := a) (lo := 0) (hi := (n - 1).toInt64) 0 (n.toInt - 1) rfl (by rw [wk_64]; exact e)
  by_cases c : a < 0
  · have k : a.toInt < 0 := wk_lt c
    rw [if_pos c]
    rcases h9 with ⟨u1, u2, u3⟩ | ⟨u1, u2⟩
    · exfalso; omega
    · exact Or.inr ⟨by decide, u2, by omega⟩
  · have k : ¬ a.toInt < 0 := wk_nlt c
    rw [if_neg c]
    by_cases d : a < n
    · have k2 := wk_lt d
      rw [if_pos d]
      rcases h9 with ⟨u1, u2, u3⟩ | ⟨u1, u2⟩
      · exact Or.inl ⟨rfl, u3, by omega, k2⟩
      · exfalso; omega
    · have k2 := wk_nlt d
      rw [if_neg d]
      rcases h9 with ⟨u1, u2, u3⟩ | ⟨u1, u2⟩
      · exfalso; omega
      · exact Or.inr ⟨by decide, u2, by omega⟩
theorem ra_see {n e a b d : Int32} {k A B C g : Nat → Int32} (hn : 0 ≤ n.toInt ∧ n.toInt ≤ 8) (he : 0 ≤ e.toInt ∧ e.toInt ≤ 6) {r r' s1 s2 : Int32} {A1 B1 C1 g1 : Nat → Int32} (e1 : (r, s1, A1, B1, C1) = fn_X11_see n k e A B C a b d) (e2 : (r', s2, g1) = fn_X12_see n e g a b d) : r = r' ∧ s1 = s2 := by
  unfold fn_X11_see at e1
  unfold fn_X12_see at e2
  rcases ra_isNum (n := n) (a := a) hn with ⟨n1, n2, n3⟩ | ⟨n1, n2, n3⟩
  · rw [if_pos n1] at e1
    rw [if_neg n2] at e2
    rcases ra_isKey b with ⟨ka, kb, kc⟩ | ⟨ka, kb⟩
    · rw [if_pos ka] at e1
      rw [if_neg kb] at e2
      rcases ra_in (a := d) (lo := 0) (hi := 99) 0 99 rfl rfl with ⟨d1, d2, d3⟩ | ⟨d1, d2⟩
      · rw [if_neg (fun q => by have q1 : d.toInt < 0 := wk_lt q; omega), if_pos (show d ≤ 99 from Int32.le_iff_toInt_le.mpr d2)] at e1
        rw [if_neg d3] at e2
        by_cases c : e < 6
        · have k6 : e.toInt < 6 := wk_lt c
          have c6 : ¬ (6 : Int32) ≤ e := fun q => by have q1 : 6 ≤ e.toInt := wk_le q; omega
          rw [if_pos c, fn_X4_add, if_neg c6] at e1
          rw [if_neg (fun q => by have q1 : e.toInt = 6 := wk_eq q; omega)] at e2
          simp only [ra_pm2] at e1
          cases e1
          cases e2
          exact ⟨rfl, rfl⟩
        · have k6 : ¬ e.toInt < 6 := wk_nlt c
          rw [if_neg c] at e1
          rw [if_pos (Int32.toInt_inj.mp (show e.toInt = 6 by omega))] at e2
          cases e1
          cases e2
          exact ⟨rfl, rfl⟩
      · rw [if_pos d2] at e2
        by_cases c : d < 0
        · rw [if_pos c] at e1
          cases e1
          cases e2
          exact ⟨rfl, rfl⟩
        · have k6 : ¬ d.toInt < 0 := wk_nlt c
          rw [if_neg c, if_neg (fun q => by have q1 : d.toInt ≤ 99 := wk_le q; omega)] at e1
          cases e1
          cases e2
          exact ⟨rfl, rfl⟩
    · rw [if_neg ka] at e1
      rw [if_pos kb] at e2
      cases e1
      cases e2
      exact ⟨rfl, rfl⟩
  · rw [if_neg n1] at e1
    rw [if_pos n2] at e2
    cases e1
    cases e2
    exact ⟨rfl, rfl⟩
