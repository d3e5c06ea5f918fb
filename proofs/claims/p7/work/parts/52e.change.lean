def ra_T (n : Int32) (k v h t : Nat → Int32) (n' : Int32) (k' v' h' t' : Nat → Int32) : Prop := n = n' ∧ (0 ≤ n.toInt ∧ n.toInt ≤ 8) ∧ ra_ag ra_K n.toInt k k' ∧ ra_ag ra_V n.toInt v v' ∧ ra_ag ra_H n.toInt h h' ∧ ra_ag ra_K n.toInt t t'
theorem ra_th {n a p : Int32} {k' : Nat → Int32} (ep : p = fn_X12_placeOf n k' a) : (fn_X12_isThere n k' a = 0 ∧ (n ≤ p ∨ ¬ k' p.toNatClampNeg = a)) ∨ (¬ fn_X12_isThere n k' a = 0 ∧ ¬ n ≤ p ∧ k' p.toNatClampNeg = a) := by
  unfold fn_X12_isThere
  rw [← ep]
  by_cases c : n ≤ p
  · rw [if_pos c]
    exact Or.inl ⟨rfl, Or.inl c⟩
  · rw [if_neg c]
    by_cases d : k' p.toNatClampNeg = a
    · rw [if_pos d]
      exact Or.inr ⟨by decide, c, d⟩
    · rw [if_neg d]
      exact Or.inl ⟨rfl, Or.inr d⟩
theorem ra_opF {q r r' c1 c2 n1 n2 ch n : Int32} {k v h t k' v' h' t' k1 v1 h1 t1 k2 v2 h2 t2 : Nat → Int32} (hn : 2 ≤ n.toInt) (hT : ra_T n k v h t n k' v' h' t') (e1 : (r, c1, n1, k1, v1, h1, t1) = (q, ch, n, k, v, h, t)) (e2 : (r', n2, c2, k2, v2, h2, t2) = (q, n, ch, k', v', h', t')) : r = r' ∧ c1 = c2 ∧ 2 ≤ n1.toInt ∧ ra_T n1 k1 v1 h1 t1 n2 k2 v2 h2 t2 := by
  cases e1
  cases e2
  exact ⟨rfl, rfl, hn, hT⟩
theorem ra_putI {lc : Nat} {ml n ch a b d p : Int32} {k v h t k' v' h' t' : Nat → Int32} (hk : ra_kind lc ml) (hn : 2 ≤ n.toInt ∧ n.toInt ≤ 7) (hp : 0 ≤ p.toInt ∧ p.toInt ≤ n.toInt) (i1 : ra_ag ra_K n.toInt k k') (i2 : ra_ag ra_V n.toInt v v') (i3 : ra_ag ra_H n.toInt h h') (i4 : ra_ag ra_K n.toInt t t') (pa : ra_K a) (pb : ra_V b) (pd : ra_H d)
    {r r' c1 c2 n1 n2 : Int32} {k1 v1 h1 t1 k2 v2 h2 t2 : Nat → Int32}
    (e1 : (r, c1, n1, k1, v1, h1, t1) = (pm2 (fn_X8_insert n k v h t p a b d) (fun o_24 t_ => (pm2 (t_) (fun o_25 t_ => (pm2 (t_) (fun o_26 t_ => (pm2 (t_) (fun o_27 o_28 => (pm2 (fn_X11_changeIsMade_R lc ch o_24 o_25 o_27) (fun o_34 o_35 => (p, o_34, o_24, o_25, o_26, o_35, o_28))))))))))))
    (e2 : (r', n2, c2, k2, v2, h2, t2) = (pm2 (fn_X12_moveUp n k' v' h' t' p) (fun o_55 t_ => (pm2 (t_) (fun o_56 t_ => (pm2 (t_) (fun o_57 t_ => (pm2 (t_) (fun o_58 o_59 => (pm1 (fn_X12_layHeights ml o_55 (upd o_56 p.toNatClampNeg a) (upd o_58 p.toNatClampNeg d)) (fun o_65 => (p, o_55, (ch + 1), (upd o_56 p.toNatClampNeg a), (upd o_57 p.toNatClampNeg b), o_65, (upd o_59 p.toNatClampNeg 0)))))))))))))  : r = r' ∧ c1 = c2 ∧ 2 ≤ n1.toInt ∧ ra_T n1 k1 v1 h1 t1 n2 k2 v2 h2 t2 := by
  obtain ⟨K2, V2, H2, T2, K3, V3, H3, T3, q1, q2, j1, j2, j3, j4⟩ := ra_ins (S := n) (a := p) (b := a) (d := b) (e1 := d) (by omega) hp i1 i2 i3 i4 pa pb pd (show ra_K 0 from ⟨by decide, by decide⟩)
  rw [q1] at e1
  rw [q2] at e2
  simp only [ra_pm2, ra_pm1, fn_X11_changeIsMade_R] at e1 e2
  have e := ra_inc (x := n) (by omega) (by omega)
  rw [← e] at j1 j2 j3 j4
  cases e1
  cases e2
  exact ⟨rfl, rfl, by omega, rfl, by omega, j1, j2, ra_rt hk (by omega) j1 j3, j4⟩
theorem ra_put {lc : Nat} {ml n ch a b d : Int32} {k v h t k' v' h' t' : Nat → Int32} (hk : ra_kind lc ml) (hn : 2 ≤ n.toInt) (hT : ra_T n k v h t n k' v' h' t')
    {r r' c1 c2 n1 n2 : Int32} {k1 v1 h1 t1 k2 v2 h2 t2 : Nat → Int32} (e1 : (r, c1, n1, k1, v1, h1, t1) = fn_X11_put_R lc ch n k v h t a b d) (e2 : (r', n2, c2, k2, v2, h2, t2) = fn_X12_put ml n ch k' v' h' t' a b d) : r = r' ∧ c1 = c2 ∧ 2 ≤ n1.toInt ∧ ra_T n1 k1 v1 h1 t1 n2 k2 v2 h2 t2 := by
  obtain ⟨-, hn8, i1, i2, i3, i4⟩ := id hT
  unfold fn_X11_put_R at e1
  unfold fn_X12_put at e2
  have hp := ra_pl k' hn8 a
  rw [ra_fnl i1 hn8.2 a] at e1
  obtain ⟨p, ep⟩ : ∃ p : Int32, p = fn_X12_placeOf n k' a := ⟨_, rfl⟩
  have hth := ra_th ep
  rw [← ep] at e1 e2 hp
  rcases ra_isKey a with ⟨ka, kb, kc⟩ | ⟨ka, kb⟩
  · rw [if_pos ka] at e1
    rw [if_neg kb] at e2
    rcases ra_in (a := b) (lo := 0) (hi := 9) 0 9 rfl rfl with ⟨b1, b2, b3⟩ | ⟨b1, b2⟩
    · rw [if_neg (fun q => by have q1 : b.toInt < 0 := wk_lt q; omega), if_neg (fun q => by have q1 : 9 < b.toInt := wk_lt q; omega)] at e1
      rw [if_neg b3] at e2
      rcases ra_in (a := d) (lo := 1) (hi := 4) 1 4 rfl rfl with ⟨d1, d2, d3⟩ | ⟨d1, d2⟩
      · rw [if_neg (fun q => by have q1 : d.toInt < 1 := wk_lt q; omega), if_pos (show d ≤ 4 from Int32.le_iff_toInt_le.mpr d2)] at e1
        rw [if_neg d3, if_pos (ra_lacks (n := n) (by omega))] at e2
        rcases hth with ⟨t0, t1⟩ | ⟨t0, t1, t2⟩
        · simp only [if_pos t0] at e2
          by_cases c8 : n < 8
          · have k8 : n.toInt < 8 := wk_lt c8
            rw [if_neg (fun q => by have q1 : n.toInt = 8 := wk_eq q; omega)] at e2
            by_cases cA : n ≤ p
            · rw [if_pos cA, if_pos c8] at e1
              exact ra_putI hk (by omega) hp i1 i2 i3 i4 kc ⟨b1, b2⟩ ⟨d1, d2⟩ e1 e2
            · have kA := wk_nle cA
              have cB : ¬ k p.toNatClampNeg = a := by rw [(ra_at i1 hp.1 (by omega)).1]; exact t1.resolve_left cA
              rw [if_neg cA, if_neg cB, if_pos c8] at e1
              exact ra_putI hk (by omega) hp i1 i2 i3 i4 kc ⟨b1, b2⟩ ⟨d1, d2⟩ e1 e2
          · have k8 : ¬ n.toInt < 8 := wk_nlt c8
            rw [if_pos (Int32.toInt_inj.mp (show n.toInt = 8 by omega))] at e2
            by_cases cA : n ≤ p
            · rw [if_pos cA, if_neg c8] at e1
              exact ra_opF hn hT e1 e2
            · have kA := wk_nle cA
              have cB : ¬ k p.toNatClampNeg = a := by rw [(ra_at i1 hp.1 (by omega)).1]; exact t1.resolve_left cA
              rw [if_neg cA, if_neg cB, if_neg c8] at e1
              exact ra_opF hn hT e1 e2
        · have kA := wk_nle t1
          have cB : k p.toNatClampNeg = a := by rw [(ra_at i1 hp.1 (by omega)).1]; exact t2
          rw [if_neg t1, if_pos cB] at e1
          simp only [if_neg t0] at e2
          simp only [ra_pm2, ra_pm1, fn_X11_changeIsMade_R] at e1 e2
          cases e1
          cases e2
          exact ⟨rfl, rfl, hn, rfl, hn8, i1, ra_upd i2 _ rfl ⟨b1, b2⟩, ra_rt hk hn8 i1 (ra_upd i3 _ rfl ⟨d1, d2⟩), i4⟩
      · rw [if_pos d2] at e2
        by_cases cD : d < 1
        · rw [if_pos cD] at e1
          exact ra_opF hn hT e1 e2
        · have kD : ¬ d.toInt < 1 := wk_nlt cD
          rw [if_neg cD, if_neg (fun q => by have q1 : d.toInt ≤ 4 := wk_le q; omega)] at e1
          exact ra_opF hn hT e1 e2
    · rw [if_pos b2] at e2
      by_cases cD : b < 0
      · rw [if_pos cD] at e1
        exact ra_opF hn hT e1 e2
      · have kD : ¬ b.toInt < 0 := wk_nlt cD
        rw [if_neg cD, if_pos (show (9 : Int32) < b from Int32.lt_iff_toInt_lt.mpr (show 9 < b.toInt by omega))] at e1
        exact ra_opF hn hT e1 e2
  · rw [if_neg ka] at e1
    rw [if_pos kb] at e2
    exact ra_opF hn hT e1 e2
theorem ra_remove {lc : Nat} {ml n ch a : Int32} {k v h t k' v' h' t' : Nat → Int32} (hk : ra_kind lc ml) (hn : 2 ≤ n.toInt) (hT : ra_T n k v h t n k' v' h' t')
    {r r' c1 c2 n1 n2 : Int32} {k1 v1 h1 t1 k2 v2 h2 t2 : Nat → Int32} (e1 : (r, c1, n1, k1, v1, h1, t1) = fn_X11_remove_R lc ch n k v h t a) (e2 : (r', n2, c2, k2, v2, h2, t2) = fn_X12_remove ml n ch k' v' h' t' a) : r = r' ∧ c1 = c2 ∧ 2 ≤ n1.toInt ∧ ra_T n1 k1 v1 h1 t1 n2 k2 v2 h2 t2 := by
  obtain ⟨-, hn8, i1, i2, i3, i4⟩ := id hT
  unfold fn_X11_remove_R fn_X8_numberOf at e1
  unfold fn_X12_remove at e2
  have hp := ra_pl k' hn8 a
  rw [ra_fnl i1 hn8.2 a] at e1
  obtain ⟨p, ep⟩ : ∃ p : Int32, p = fn_X12_placeOf n k' a := ⟨_, rfl⟩
  have hth := ra_th ep
  rw [← ep] at e1 e2 hp
  rcases ra_isKey a with ⟨ka, kb, kc⟩ | ⟨ka, kb⟩
  · rw [if_pos ka] at e1
    rw [if_neg kb, if_pos (ra_lacks (n := n) (by omega))] at e2
    rcases hth with ⟨t0, t1⟩ | ⟨t0, t1, t2⟩
    · rw [if_pos t0] at e2
      by_cases cA : n ≤ p
      · simp only [if_pos cA] at e1
        exact ra_opF hn hT e1 e2
      · have kA := wk_nle cA
        have cB : ¬ k p.toNatClampNeg = a := by rw [(ra_at i1 hp.1 (by omega)).1]; exact t1.resolve_left cA
        simp only [if_neg cA, if_neg cB] at e1
        exact ra_opF hn hT e1 e2
    · have kA := wk_nle t1
      have cB : k p.toNatClampNeg = a := by rw [(ra_at i1 hp.1 (by omega)).1]; exact t2
      have cM : ¬ p = -1 := fun q => by have q1 : p.toInt = -1 := wk_eq q; omega
      simp only [if_neg t1, if_pos cB, if_neg cM] at e1
      rw [if_neg t0] at e2
      by_cases c2 : (2 : Int32) < n
      · have k2 : 2 < n.toInt := wk_lt c2
        rw [if_pos c2] at e1
        rw [if_neg (fun q => by have q1 : n.toInt = 2 := wk_eq q; omega)] at e2
        obtain ⟨K2, V2, H2, T2, K3, V3, H3, T3, q1, q2, j1, j2, j3, j4⟩ := ra_out (S := n) (a := p) (by omega) hp i1 i2 i3 i4
        rw [q1] at e1
        rw [q2] at e2
        simp only [ra_pm2, ra_pm1, fn_X11_changeIsMade_R] at e1 e2
        have e : (n - 1).toInt = n.toInt - 1 := wk_sub n.toInt 1 rfl rfl (by omega) (by omega)
        rw [← e] at j1 j2 j3 j4
        have ev := (ra_at i2 (x := p) hp.1 (by omega)).1
        cases e1
        cases e2
        exact ⟨ev, rfl, by omega, rfl, by omega, j1, j2, ra_rt hk (by omega) j1 j3, j4⟩
      · have k2 : ¬ 2 < n.toInt := wk_nlt c2
        rw [if_neg c2] at e1
        rw [if_pos (Int32.toInt_inj.mp (show n.toInt = 2 by omega))] at e2
        exact ra_opF hn hT e1 e2
  · rw [if_neg ka] at e1
    rw [if_pos kb] at e2
    exact ra_opF hn hT e1 e2
theorem ra_split {lc : Nat} {ml n ch s a : Int32} {k v h t k' v' h' t' sk sv sh st sk' sv' sh' st' : Nat → Int32} (hk : ra_kind lc ml) (hn : 2 ≤ n.toInt) (hT : ra_T n k v h t n k' v' h' t') (hU : ra_T s sk sv sh st s sk' sv' sh' st')
    {r r' c1 c2 n1 n2 s1 s2 : Int32} {h1 h2 k1 v1 w1 t1 k2 v2 w2 t2 : Nat → Int32} (e1 : (r, c1, n1, h1, s1, k1, v1, w1, t1) = fn_X11_split_R lc ch n k v h t s sk sv sh st a) (e2 : (r', n2, c2, s2, h2, k2, v2, w2, t2) = fn_X12_split ml n ch s k' v' h' t' sk' sv' sh' st' a) : r = r' ∧ c1 = c2 ∧ 2 ≤ n1.toInt ∧ ra_T n1 k v h1 t n2 k' v' h2 t' ∧ ra_T s1 k1 v1 w1 t1 s2 k2 v2 w2 t2 := by
  obtain ⟨-, hn8, i1, i2, i3, i4⟩ := id hT
  obtain ⟨-, hs8, u1, u2, u3, u4⟩ := id hU
  unfold fn_X11_split_R at e1
  unfold fn_X12_split at e2
  have hp := ra_pl k' hn8 a
  rw [ra_fnl i1 hn8.2 a] at e1
  obtain ⟨p, ep⟩ : ∃ p : Int32, p = fn_X12_placeOf n k' a := ⟨_, rfl⟩
  rw [← ep] at e1 e2 hp
  have F : ∀ q : Int32, (r, c1, n1, h1, s1, k1, v1, w1, t1) = (q, ch, n, h, s, sk, sv, sh, st) → (r', n2, c2, s2, h2, k2, v2, w2, t2) = (q, n, ch, s, h', sk', sv', sh', st') → r = r' ∧ c1 = c2 ∧ 2 ≤ n1.toInt ∧ ra_T n1 k v h1 t n2 k' v' h2 t' ∧ ra_T s1 k1 v1 w1 t1 s2 k2 v2 w2 t2 := by
    intro q f1 f2
    cases f1
    cases f2
    exact ⟨rfl, rfl, hn, hT, hU⟩
  rcases ra_isKey a with ⟨ka, kb, kc⟩ | ⟨ka, kb⟩
  · rw [if_pos ka] at e1
    rw [if_neg kb, if_pos (ra_lacks (n := n) (by omega))] at e2
    by_cases cS : (0 : Int32) < s
    · rw [if_pos cS] at e1 e2
      exact F _ e1 e2
    · have kS : ¬ 0 < s.toInt := wk_nlt cS
      have es : s = 0 := Int32.toInt_inj.mp (show s.toInt = 0 by omega)
      rw [if_neg cS] at e1 e2
      by_cases c2 : p < 2
      · rw [if_pos c2] at e1 e2
        exact F _ e1 e2
      · have k2 : ¬ p.toInt < 2 := wk_nlt c2
        rw [if_neg c2] at e1 e2
        by_cases cP : p < n
        · have kP := wk_lt cP
          rw [if_pos cP] at e1
          rw [if_neg (fun q => by have q1 := wk_eq q; omega)] at e2
          have z : (0 : Int32).toInt = 0 := rfl
          obtain ⟨x3, x4, K2, V2, H2, T2, K3, V3, H3, T3, q1, q2, j1, j2, j3, j4⟩ := ra_splL (m0 := ml) (m1 := ch) (m2 := s) (ka := sk) (va := sv) (ha := sh) (ta := st) (kb := sk') (vb := sv') (hb := sh') (tb := st') ep.symm hn8.2 (by omega) i1 i2 i3 i4 10 p 0 sk sk' sv sv' sh sh' st st' (by omega) (by omega) (by omega) (by omega) (ra_nil (by omega)) (ra_nil (by omega)) (ra_nil (by omega)) (ra_nil (by omega))
          rw [es] at e1
          unfold fn_X8_append at e1
          rw [q1] at e1
          rw [q2] at e2
          simp only [ra_pm2, ra_pm1, fn_X11_changeIsMade_R] at e1 e2
          have e : (n - p).toInt = n.toInt - p.toInt := wk_sub n.toInt p.toInt rfl rfl (by omega) (by omega)
          rw [← e] at j1 j2 j3 j4
          cases e1
          cases e2
          refine ⟨rfl, rfl, by omega, ⟨rfl, by omega, ra_less i1 (by omega), ra_less i2 (by omega), ra_rt hk (by omega) (ra_less i1 (by omega)) (ra_less i3 (by omega)), ra_less i4 (by omega)⟩, ⟨rfl, by omega, j1, j2, j3, j4⟩⟩
        · have kP := wk_nlt cP
          rw [if_neg cP] at e1
          rw [if_pos (Int32.toInt_inj.mp (show p.toInt = n.toInt by omega))] at e2
          exact F _ e1 e2
  · rw [if_neg ka] at e1
    rw [if_pos kb] at e2
    exact F _ e1 e2
theorem ra_join {lc : Nat} {ml n ch s : Int32} {k v h t k' v' h' t' sk sv sh st sk' sv' sh' st' : Nat → Int32} (hk : ra_kind lc ml) (hn : 2 ≤ n.toInt) (hT : ra_T n k v h t n k' v' h' t') (hU : ra_T s sk sv sh st s sk' sv' sh' st')
    {r r' c1 c2 n1 n2 s1 s2 : Int32} {k1 v1 h1 t1 k2 v2 h2 t2 : Nat → Int32} (e1 : (r, c1, n1, k1, v1, h1, t1, s1) = fn_X11_join_R lc ch n k v h t s sk sv sh st) (e2 : (r', n2, c2, s2, k2, v2, h2, t2) = fn_X12_join ml n ch s k' v' h' t' sk' sv' sh' st') : r = r' ∧ c1 = c2 ∧ 2 ≤ n1.toInt ∧ ra_T n1 k1 v1 h1 t1 n2 k2 v2 h2 t2 ∧ ra_T s1 sk sv sh st s2 sk' sv' sh' st' := by
  obtain ⟨-, hn8, i1, i2, i3, i4⟩ := id hT
  obtain ⟨-, hs8, u1, u2, u3, u4⟩ := id hU
  unfold fn_X11_join_R fn_X8_lastKey at e1
  unfold fn_X12_join at e2
  have F : ∀ q : Int32, (r, c1, n1, k1, v1, h1, t1, s1) = (q, ch, n, k, v, h, t, s) → (r', n2, c2, s2, k2, v2, h2, t2) = (q, n, ch, s, k', v', h', t') → r = r' ∧ c1 = c2 ∧ 2 ≤ n1.toInt ∧ ra_T n1 k1 v1 h1 t1 n2 k2 v2 h2 t2 ∧ ra_T s1 sk sv sh st s2 sk' sv' sh' st' := by
    intro q f1 f2
    cases f1
    cases f2
    exact ⟨rfl, rfl, hn, hT, hU⟩
  have z : (0 : Int32).toInt = 0 := rfl
  by_cases cS : s = 0
  · rw [if_pos cS] at e1 e2
    exact F _ e1 e2
  · have kS : ¬ s.toInt = 0 := wk_neq cS
    rw [if_neg cS] at e1 e2
    have e9 : (n - 1).toInt = n.toInt - 1 := wk_sub n.toInt 1 rfl rfl (by omega) (by omega)
    rw [if_neg (show ¬ n ≤ 0 from fun q => by have q1 : n.toInt ≤ 0 := wk_le q; omega), (ra_at i1 (x := n - 1) (by omega) (by omega)).1, (ra_at u1 (x := 0) (by omega) (by omega)).1] at e1
    by_cases cL : k' (n - 1).toNatClampNeg < sk' (0 : Int32).toNatClampNeg
    · rw [if_pos cL] at e1 e2
      by_cases c8 : (n + s) ≤ 8
      · have e3 : (n + s).toInt = n.toInt + s.toInt := wk_add n.toInt s.toInt rfl rfl (by omega) (by omega)
        have k8 : (n + s).toInt ≤ 8 := wk_le c8
        rw [if_pos c8] at e1 e2
        obtain ⟨x3, x4, K2, V2, H2, T2, K3, V3, H3, T3, q1, q2, j1, j2, j3, j4⟩ := ra_joiL (m0 := ml) (m1 := ch) (ka := k) (va := v) (ha := h) (ta := t) (kb := k') (vb := v') (hb := h') (tb := t') hn8.1 hs8.1 (by omega) u1 u2 u3 u4 10 0 n k k' v v' h h' t t' (by omega) (by omega) (by omega) (by omega) i1 i2 i3 i4
        unfold fn_X8_append at e1
        rw [q1] at e1
        rw [q2] at e2
        simp only [ra_pm2, ra_pm1, fn_X11_changeIsMade_R] at e1 e2
        rw [← e3] at j1 j2 j3 j4
        cases e1
        cases e2
        refine ⟨rfl, rfl, by omega, ⟨rfl, by omega, j1, j2, ra_rt hk (by omega) j1 j3, j4⟩, ⟨rfl, by omega, ra_nil (by omega), ra_nil (by omega), ra_nil (by omega), ra_nil (by omega)⟩⟩
      · rw [if_neg c8] at e1 e2
        exact F _ e1 e2
    · rw [if_neg cL] at e1 e2
      exact F _ e1 e2
