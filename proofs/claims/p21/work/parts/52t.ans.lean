theorem ra_cosL {n a1 a2 a3 b1 b2 b3 : Int32} {k h t k' h' t' : Nat → Int32} (hn : 0 ≤ n.toInt ∧ n.toInt ≤ 8) (i1 : ra_ag ra_K n.toInt k k') (i3 : ra_ag ra_H n.toInt h h') (i4 : ra_ag ra_K n.toInt t t') : ∀ (fu : Nat) (s x w1 w2 w3 m1 m2 m3 : Int32), 0 ≤ x.toInt → (lp_X9_costOf_5 a1 a2 a3 n k t h fu s x w1 w2 w3).1 = (lp_X12_costOf_4 n b1 b2 b3 k' h' t' fu s x m1 m2 m3).1 := by
  intro fu
  induction fu with
  | zero => intro s x w1 w2 w3 m1 m2 m3 hx; rw [lp_X9_costOf_5, lp_X12_costOf_4]
  | succ fu ih =>
    intro s x w1 w2 w3 m1 m2 m3 hx
    rw [lp_X9_costOf_5, lp_X12_costOf_4]
    by_cases c : n ≤ x
    · simp only [if_pos c]
    · simp only [if_neg c]
      have kx := wk_nle c
      have h0 : 0 ≤ (x + 1).toInt := by rw [ra_inc (by omega) hx]; omega
      obtain ⟨t1, t2⟩ := ra_at i4 hx (by omega)
      have t3 : 0 ≤ (t x.toNatClampNeg).toInt ∧ (t x.toNatClampNeg).toInt ≤ 99 := t2
      obtain ⟨F, L, S, q1, q2, q3⟩ := ra_go hn i1 i3 w1 w2 w3 m1 m2 m3 (k' x.toNatClampNeg)
      unfold fn_X12_looksFor
      rw [(ra_at i1 hx (by omega)).1, q1, q2]
      simp only [ra_pm2]
      rw [t1] at t3
      rw [t1]
      by_cases d : t' x.toNatClampNeg ≤ 0
      · have kd : (t' x.toNatClampNeg).toInt ≤ 0 := wk_le d
        have e0 : t' x.toNatClampNeg = 0 := Int32.toInt_inj.mp (show _ = (0 : Int) by omega)
        rw [if_pos d, e0, Int32.zero_mul, Int32.add_zero]
        exact ih _ _ _ _ _ _ _ _ h0
      · rw [if_neg d]
        exact ih _ _ _ _ _ _ _ _ h0
theorem ra_cos {n w1 w2 w3 m1 m2 m3 : Int32} {k h t k' h' t' : Nat → Int32} (hn : 0 ≤ n.toInt ∧ n.toInt ≤ 8) (i1 : ra_ag ra_K n.toInt k k') (i3 : ra_ag ra_H n.toInt h h') (i4 : ra_ag ra_K n.toInt t t') : (fn_X9_costOf w1 w2 w3 n k t h).1 = (fn_X12_costOf n m1 m2 m3 k' h' t').1 := by
  unfold fn_X9_costOf fn_X12_costOf
  simp only [ra_pm2]
  exact ra_cosL hn i1 i3 i4 10 0 0 w1 w2 w3 m1 m2 m3 (by decide)
theorem ra_chI {n z1 z2 z3 z4 z5 z6 z7 z8 z9 y1 y2 y3 y4 y5 y6 y7 j1 j2 j3 j4 j5 j6 j7 j8 g1 g2 g3 g4 g5 g6 x : Int32} {k h t k' h' t' u0 u1 u2 : Nat → Int32} (hn : 0 ≤ n.toInt ∧ n.toInt ≤ 8) (hx : 0 ≤ x.toInt ∧ x.toInt < n.toInt) (i1 : ra_ag ra_K n.toInt k k') (i4 : ra_ag ra_K n.toInt t t') : ∀ (fu : Nat) (v le cn ch w1 w2 w3 m1 m2 m3 : Int32) (A B : Nat → Int32), (1 ≤ v.toInt ∧ v.toInt ≤ 5) → 5 - v.toInt < (fu : Int) → ra_ag ra_H n.toInt A B → (∀ i : Nat, ¬ i = x.toNatClampNeg → B i = h' i) →
    ∃ (v2 v3 le2 cn2 ch2 p1 p2 p3 s1 s2 s3 : Int32) (A2 B2 : Nat → Int32), lp_X9_seekChange_47 z1 z2 z3 z4 z5 z6 u0 n k h t z7 z8 z9 y1 u1 x y2 y3 y4 y5 y6 y7 u2 fu v le cn ch w1 w2 w3 A = (v2, le2, cn2, ch2, p1, p2, p3, A2) ∧ lp_X12_changeOf_34 n j1 j2 j3 k' h' t' j4 j5 j6 j7 j8 g1 g2 g3 x g4 g5 g6 fu le cn ch v m1 m2 m3 B = (le2, cn2, ch2, v3, s1, s2, s3, B2) ∧ ra_ag ra_H n.toInt A2 B2 ∧ (∀ i : Nat, ¬ i = x.toNatClampNeg → B2 i = h' i) := by
  intro fu
  induction fu with
  | zero => intro v le cn ch w1 w2 w3 m1 m2 m3 A B h1 h2; exfalso; omega
  | succ fu ih =>
    intro v le cn ch w1 w2 w3 m1 m2 m3 A B h1 h2 h3 h4
    rw [lp_X9_seekChange_47, lp_X12_changeOf_34]
    by_cases c : (4 : Int32) < v
    · have kc : 4 < v.toInt := wk_lt c
      have c5 : (5 : Int32) ≤ v := Int32.le_iff_toInt_le.mpr (show 5 ≤ v.toInt by omega)
      simp only [if_pos c, if_pos c5]
      exact ⟨v, v, le, cn, ch, w1, w2, w3, m1, m2, m3, A, B, rfl, rfl, h3, h4⟩
    · have kc : ¬ 4 < v.toInt := wk_nlt c
      have c5 : ¬ (5 : Int32) ≤ v := fun q => by have q1 : 5 ≤ v.toInt := wk_le q; omega
      simp only [if_neg c, if_neg c5, fn_X9_weighChange]
      have e := ra_inc (x := v) (by omega) (by omega)
      have j3' : ra_ag ra_H n.toInt (upd A x.toNatClampNeg v) (upd B x.toNatClampNeg v) := ra_upd h3 _ rfl ⟨h1.1, by omega⟩
      have j4' : ∀ i : Nat, ¬ i = x.toNatClampNeg → upd B x.toNatClampNeg v i = h' i := fun i hi => by rw [ra_un _ _ hi]; exact h4 i hi
      have hc := ra_cos (w1 := w1) (w2 := w2) (w3 := w3) (m1 := m1) (m2 := m2) (m3 := m3) hn i1 j3' i4
      simp only [ra_pm2]
      rw [hc, ra_ua]
      by_cases d : le ≤ (fn_X12_costOf n m1 m2 m3 k' (upd B x.toNatClampNeg v) t').1
      · simp only [if_pos d]
        exact ih (v + 1) _ _ _ _ _ _ _ _ _ _ _ (by omega) (by omega) j3' j4'
      · simp only [if_neg d]
        exact ih (v + 1) _ _ _ _ _ _ _ _ _ _ _ (by omega) (by omega) j3' j4'
theorem ra_chO {n z1 z2 z3 z4 z5 z6 z7 z8 z9 y1 j1 j2 j3 j4 j5 j6 j7 j8 : Int32} {k h t k' h' t' u0 u1 : Nat → Int32} (hn : 0 ≤ n.toInt ∧ n.toInt ≤ 8) (i1 : ra_ag ra_K n.toInt k k') (i3 : ra_ag ra_H n.toInt h h') (i4 : ra_ag ra_K n.toInt t t') : ∀ (fu : Nat) (x le cn ch w1 w2 w3 m1 m2 m3 : Int32) (A : Nat → Int32), 0 ≤ x.toInt → x.toInt ≤ n.toInt → n.toInt - x.toInt < (fu : Int) → ra_ag ra_H n.toInt A h' →
    ∃ (x2 x3 le2 cn2 ch2 p1 p2 p3 s1 s2 s3 : Int32) (A2 : Nat → Int32), lp_X9_seekChange_37 z1 z2 z3 z4 z5 z6 u0 n k h t z7 z8 z9 y1 u1 fu x le cn ch w1 w2 w3 A = (x2, le2, cn2, ch2, p1, p2, p3, A2) ∧ lp_X12_changeOf_13 n j1 j2 j3 k' h' t' j4 j5 j6 j7 j8 fu le cn ch x m1 m2 m3 = (le2, cn2, ch2, x3, s1, s2, s3) := by
  intro fu
  induction fu with
  | zero => intro x le cn ch w1 w2 w3 m1 m2 m3 A h1 h2 h3; exfalso; omega
  | succ fu ih =>
    intro x le cn ch w1 w2 w3 m1 m2 m3 A h1 h2 h3 h4
    rw [lp_X9_seekChange_37, lp_X12_changeOf_13]
    by_cases c : n ≤ x
    · simp only [if_pos c]
      exact ⟨x, x, le, cn, ch, w1, w2, w3, m1, m2, m3, A, rfl, rfl⟩
    · have kx := wk_nle c
      simp only [if_neg c]
      have e := ra_inc (x := x) (by omega) h1
      obtain ⟨v2, v3, le2, cn2, ch2, p1, p2, p3, s1, s2, s3, A2, B2, q1, q2, r1, r2⟩ := ra_chI (z1 := z1) (z2 := z2) (z3 := z3) (z4 := z4) (z5 := z5) (z6 := z6) (z7 := z7) (z8 := z8) (z9 := z9) (y1 := y1) (y2 := le) (y3 := cn) (y4 := ch) (y5 := w1) (y6 := w2) (y7 := w3) (u0 := u0) (u1 := u1) (u2 := A) (h := h) (h' := h') (j1 := j1) (j2 := j2) (j3 := j3) (j4 := j4) (j5 := j5) (j6 := j6) (j7 := j7) (j8 := j8) (g1 := le) (g2 := cn) (g3 := ch) (g4 := m1) (g5 := m2) (g6 := m3) hn (x := x) (by omega) i1 i4 6 1 le cn ch w1 w2 w3 m1 m2 m3 A h' ⟨by decide, by decide⟩ (by decide) h4 (fun _ _ => rfl)
      rw [q1, q2]
      simp only [ra_pm2]
      refine ih (x + 1) _ _ _ _ _ _ _ _ _ _ (by omega) (by omega) (by omega) ?_
      intro i hi
      by_cases d : i = x.toNatClampNeg
      · rw [d, ra_ua]
        exact ra_at i3 h1 (by omega)
      · rw [ra_un _ _ d]
        obtain ⟨o1, o2⟩ := r1 i hi
        exact ⟨o1.trans (r2 i d), o2⟩
theorem ra_chL {n : Int32} {f g u0 : Nat → Int32} (h : ra_ag ra_H n.toInt f g) (hn : n.toInt ≤ 8) : ∀ (fu : Nat) (x : Int32) (A : Nat → Int32), 0 ≤ x.toInt → x.toInt ≤ n.toInt → n.toInt - x.toInt < (fu : Int) → ra_ag ra_H x.toInt A g → ra_ag ra_H n.toInt (lp_X9_copyHeights_2 n f u0 fu x A).2 g := by
  intro fu
  induction fu with
  | zero => intro x A h1 h2 h3; exfalso; omega
  | succ fu ih =>
    intro x A h1 h2 h3 h4
    rw [lp_X9_copyHeights_2]
    by_cases c : n ≤ x
    · have kx := wk_le c
      simp only [if_pos c]
      exact ra_less h4 (by omega)
    · have kx := wk_nle c
      simp only [if_neg c]
      have e := ra_inc (x := x) (by omega) h1
      obtain ⟨a1, a2⟩ := ra_at h h1 (by omega)
      have u1 := ra_snoc h4 (ra_ix (x := x) h1) e a1 a2
      rw [wk_upds] at u1
      exact ih (x + 1) _ (by omega) (by omega) (by omega) u1
theorem ra_ch {n : Int32} {f g A : Nat → Int32} (h : ra_ag ra_H n.toInt f g) (hn : 0 ≤ n.toInt ∧ n.toInt ≤ 8) : ra_ag ra_H n.toInt (fn_X9_copyHeights n f A) g := by
  have z : (0 : Int32).toInt = 0 := rfl
  unfold fn_X9_copyHeights
  rw [ra_pm2]
  exact ra_chL h hn.2 10 0 A (by omega) (by omega) (by omega) (ra_nil (by omega))
theorem re_change_R {cl lc : Nat} {x_rowsRead : Int32} {x_rowOfImage : Int32} {x_bestsDone : Int32} {nw_asked : Int32} {nw_looksOfAsked : Int32} {nw_changes : Int32} {nwf_size : Int32} {nwfk_a : Nat → Int32} {nwfv_a : Nat → Int32} {nwfh_a : Nat → Int32} {nwft_a : Nat → Int32} {nws_size : Int32} {nwsk_a : Nat → Int32} {nwsv_a : Nat → Int32} {nwsh_a : Nat → Int32} {nwst_a : Nat → Int32} {nwe_size : Int32} {kp_asked : Int32} {kp_looksOfAsked : Int32} {kp_changes : Int32} {kpf_size : Int32} {kpfk_a : Nat → Int32} {kpfv_a : Nat → Int32} {kpfh_a : Nat → Int32} {kpft_a : Nat → Int32} {kps_size : Int32} {kpsk_a : Nat → Int32} {kpsv_a : Nat → Int32} {kpsh_a : Nat → Int32} {kpst_a : Nat → Int32} {kpe_size : Int32} {mo_law : Int32} {mo_many : Int32} {mo_asked : Int32} {mo_looksAll : Int32} {mo_changes : Int32} {mo_rowsRead : Int32} {mo_secondMany : Int32} {mo_seenMany : Int32} {mo_bestsDone : Int32} {mo_keptRow : Int32} {mo_keptMany : Int32} {mo_keptSecond : Int32} {mo_keptAsked : Int32} {mo_keptLooks : Int32} {mo_keptChanges : Int32} {mo_keptSeen : Int32} {mkeys_a : Nat → Int32} {mvalues_a : Nat → Int32} {mheights_a : Nat → Int32} {mheats_a : Nat → Int32} {msecondKeys_a : Nat → Int32} {msecondValues_a : Nat → Int32} {msecondHeights_a : Nat → Int32} {msecondHeats_a : Nat → Int32} {mkeptKeys_a : Nat → Int32} {mkeptValues_a : Nat → Int32} {mkeptHeights_a : Nat → Int32} {mkeptHeats_a : Nat → Int32} {mkeptKeys2_a : Nat → Int32} {mkeptValues2_a : Nat → Int32} {mkeptHeights2_a : Nat → Int32} {mkeptHeats2_a : Nat → Int32} {tr_least : Int32} {tr_changeNumber : Int32} {tr_changeHeight : Int32} {trw_number : Int32} {trw_lane : Int32} {trw_looks : Int32} {tra_a : Nat → Int32} {a : Int32} {mo_foundAt : Int32} {mo_foundLooks : Int32} {mo_foundLane : Int32} {n_tr_least : Int32} {n_tr_changeNumber : Int32} {n_tr_changeHeight : Int32} {n_trw_number : Int32} {n_trw_lane : Int32} {n_trw_looks : Int32} {n_tra_a : Nat → Int32} {n_mo_foundAt : Int32} {n_mo_foundLooks : Int32} {n_mo_foundLane : Int32} {r r2 : Int32} (hR : re_R cl lc x_rowsRead x_rowOfImage x_bestsDone nw_asked nw_looksOfAsked nw_changes nwf_size nwfk_a nwfv_a nwfh_a nwft_a nws_size nwsk_a nwsv_a nwsh_a nwst_a nwe_size kp_asked kp_looksOfAsked kp_changes kpf_size kpfk_a kpfv_a kpfh_a kpft_a kps_size kpsk_a kpsv_a kpsh_a kpst_a kpe_size mo_law mo_many mo_asked mo_looksAll mo_changes mo_rowsRead mo_secondMany mo_seenMany mo_bestsDone mo_keptRow mo_keptMany mo_keptSecond mo_keptAsked mo_keptLooks mo_keptChanges mo_keptSeen mkeys_a mvalues_a mheights_a mheats_a msecondKeys_a msecondValues_a msecondHeights_a msecondHeats_a mkeptKeys_a mkeptValues_a mkeptHeights_a mkeptHeats_a mkeptKeys2_a mkeptValues2_a mkeptHeights2_a mkeptHeats2_a) (e1 : (r, n_tr_least, n_tr_changeNumber, n_tr_changeHeight, n_trw_number, n_trw_lane, n_trw_looks, n_tra_a) = fn_X11_change_R nwf_size nwfk_a nwfh_a nwft_a tr_least tr_changeNumber tr_changeHeight trw_number trw_lane trw_looks tra_a a) (e2 : (r2, n_mo_foundAt, n_mo_foundLooks, n_mo_foundLane) = fn_X12_change mo_many mo_foundAt mo_foundLooks mo_foundLane mkeys_a mheights_a mheats_a a) : r = r2 ∧ re_R (cl + 1) lc x_rowsRead x_rowOfImage x_bestsDone nw_asked nw_looksOfAsked nw_changes nwf_size nwfk_a nwfv_a nwfh_a nwft_a nws_size nwsk_a nwsv_a nwsh_a nwst_a nwe_size kp_asked kp_looksOfAsked kp_changes kpf_size kpfk_a kpfv_a kpfh_a kpft_a kps_size kpsk_a kpsv_a kpsh_a kpst_a kpe_size mo_law mo_many mo_asked mo_looksAll mo_changes mo_rowsRead mo_secondMany mo_seenMany mo_bestsDone mo_keptRow mo_keptMany mo_keptSecond mo_keptAsked mo_keptLooks mo_keptChanges mo_keptSeen mkeys_a mvalues_a mheights_a mheats_a msecondKeys_a msecondValues_a msecondHeights_a msecondHeats_a mkeptKeys_a mkeptValues_a mkeptHeights_a mkeptHeats_a mkeptKeys2_a mkeptValues2_a mkeptHeights2_a mkeptHeats2_a := by
  have hU9 := re_upR hR
  obtain ⟨⟨b1, ⟨q1, q2, q3, q4, q5⟩, hT, hU, b5⟩, hk, hn, hr⟩ := hR
  obtain rfl := hT.1
  obtain rfl := hU.1
  obtain ⟨-, hn8, i1, i2, i3, i4⟩ := id hT
  unfold fn_X11_change_R at e1
  unfold fn_X12_change at e2
  rcases ra_in (a := a) (lo := 0) (hi := 2) 0 2 rfl rfl with ⟨d1, d2, d3⟩ | ⟨d1, d2⟩
  · rw [if_neg (fun q => by have q1 : a.toInt < 0 := wk_lt q; omega), if_pos (show a ≤ 2 from Int32.le_iff_toInt_le.mpr d2)] at e1
    rw [if_neg d3, if_pos (ra_lacks (n := nwf_size) (by omega))] at e2
    have z : (0 : Int32).toInt = 0 := rfl
    have hc := ra_cos (w1 := trw_number) (w2 := trw_lane) (w3 := trw_looks) (m1 := mo_foundAt) (m2 := mo_foundLooks) (m3 := mo_foundLane) hn8 i1 i3 i4
    unfold fn_X9_seekChange at e1
    unfold fn_X12_changeOf at e2
    obtain ⟨⟨w0, w1, w2, w3⟩, ew⟩ : ∃ w, w = fn_X9_costOf trw_number trw_lane trw_looks nwf_size nwfk_a nwft_a nwfh_a := ⟨_, rfl⟩
    obtain ⟨⟨m0, m1, m2, m3⟩, em⟩ : ∃ w, w = fn_X12_costOf nwf_size mo_foundAt mo_foundLooks mo_foundLane mkeys_a mheights_a mheats_a := ⟨_, rfl⟩
    rw [← ew, ← em] at hc
    rw [← ew] at e1
    rw [← em] at e2
    have hc : w0 = m0 := hc
    subst hc
    simp only [ra_pm2, ra_pm1] at e1 e2
    obtain ⟨x2, x3, le2, cn2, ch2, p1, p2, p3, s1, s2, s3, A2, g1, g2⟩ := ra_chO (z1 := tr_least) (z2 := tr_changeNumber) (z3 := tr_changeHeight) (z4 := trw_number) (z5 := trw_lane) (z6 := trw_looks) (u0 := tra_a) (z7 := w1) (z8 := w2) (z9 := w3) (y1 := w0) (u1 := fn_X9_copyHeights nwf_size nwfh_a tra_a) (j1 := mo_foundAt) (j2 := mo_foundLooks) (j3 := mo_foundLane) (j4 := a) (j5 := m1) (j6 := m2) (j7 := m3) (j8 := w0) hn8 i1 i3 i4 10 0 w0 (-1) (-1) w1 w2 w3 m1 m2 m3 (fn_X9_copyHeights nwf_size nwfh_a tra_a) (by omega) (by omega) (by omega) (ra_ch i3 hn8)
    rw [g1] at e1
    rw [g2] at e2
    simp only [] at e1 e2
    by_cases cN : cn2 = -1
    · simp only [if_pos cN] at e1 e2
      by_cases c0 : a = 0
      · simp only [if_pos c0] at e1 e2
        cases e1
        cases e2
        exact ⟨rfl, hU9⟩
      · simp only [if_neg c0] at e1 e2
        by_cases c1 : a = 1
        · simp only [if_pos c1] at e1 e2
          cases e1
          cases e2
          exact ⟨rfl, hU9⟩
        · simp only [if_neg c1] at e1 e2
          cases e1
          cases e2
          exact ⟨rfl, hU9⟩
    · simp only [if_neg cN] at e1 e2
      by_cases c0 : a = 0
      · simp only [if_pos c0] at e1 e2
        cases e1
        cases e2
        exact ⟨rfl, hU9⟩
      · simp only [if_neg c0] at e1 e2
        by_cases c1 : a = 1
        · simp only [if_pos c1] at e1 e2
          cases e1
          cases e2
          exact ⟨rfl, hU9⟩
        · simp only [if_neg c1] at e1 e2
          cases e1
          cases e2
          exact ⟨rfl, hU9⟩
  · rw [if_pos d2] at e2
    by_cases cD : a < 0
    · rw [if_pos cD] at e1
      cases e1
      cases e2
      exact ⟨rfl, hU9⟩
    · have kD : ¬ a.toInt < 0 := wk_nlt cD
      rw [if_neg cD, if_neg (fun q => by have q1 : a.toInt ≤ 2 := wk_le q; omega)] at e1
      cases e1
      cases e2
      exact ⟨rfl, hU9⟩
theorem re_change_N {cl : Nat} {x_rowsRead : Int32} {x_rowOfImage : Int32} {x_bestsDone : Int32} {nw_asked : Int32} {nw_looksOfAsked : Int32} {nw_changes : Int32} {nwf_size : Int32} {nwfk_a : Nat → Int32} {nwfv_a : Nat → Int32} {nwfh_a : Nat → Int32} {nwft_a : Nat → Int32} {nws_size : Int32} {nwsk_a : Nat → Int32} {nwsv_a : Nat → Int32} {nwsh_a : Nat → Int32} {nwst_a : Nat → Int32} {nwe_size : Int32} {kp_asked : Int32} {kp_looksOfAsked : Int32} {kp_changes : Int32} {kpf_size : Int32} {kpfk_a : Nat → Int32} {kpfv_a : Nat → Int32} {kpfh_a : Nat → Int32} {kpft_a : Nat → Int32} {kps_size : Int32} {kpsk_a : Nat → Int32} {kpsv_a : Nat → Int32} {kpsh_a : Nat → Int32} {kpst_a : Nat → Int32} {kpe_size : Int32} {mo_law : Int32} {mo_many : Int32} {mo_asked : Int32} {mo_looksAll : Int32} {mo_changes : Int32} {mo_rowsRead : Int32} {mo_secondMany : Int32} {mo_seenMany : Int32} {mo_bestsDone : Int32} {mo_keptRow : Int32} {mo_keptMany : Int32} {mo_keptSecond : Int32} {mo_keptAsked : Int32} {mo_keptLooks : Int32} {mo_keptChanges : Int32} {mo_keptSeen : Int32} {mkeys_a : Nat → Int32} {mvalues_a : Nat → Int32} {mheights_a : Nat → Int32} {mheats_a : Nat → Int32} {msecondKeys_a : Nat → Int32} {msecondValues_a : Nat → Int32} {msecondHeights_a : Nat → Int32} {msecondHeats_a : Nat → Int32} {mkeptKeys_a : Nat → Int32} {mkeptValues_a : Nat → Int32} {mkeptHeights_a : Nat → Int32} {mkeptHeats_a : Nat → Int32} {mkeptKeys2_a : Nat → Int32} {mkeptValues2_a : Nat → Int32} {mkeptHeights2_a : Nat → Int32} {mkeptHeats2_a : Nat → Int32} {a : Int32} {mo_foundAt : Int32} {mo_foundLooks : Int32} {mo_foundLane : Int32} {n_mo_foundAt : Int32} {n_mo_foundLooks : Int32} {n_mo_foundLane : Int32} {r2 : Int32} (hR : re_N cl x_rowsRead x_rowOfImage x_bestsDone nw_asked nw_looksOfAsked nw_changes nwf_size nwfk_a nwfv_a nwfh_a nwft_a nws_size nwsk_a nwsv_a nwsh_a nwst_a nwe_size kp_asked kp_looksOfAsked kp_changes kpf_size kpfk_a kpfv_a kpfh_a kpft_a kps_size kpsk_a kpsv_a kpsh_a kpst_a kpe_size mo_law mo_many mo_asked mo_looksAll mo_changes mo_rowsRead mo_secondMany mo_seenMany mo_bestsDone mo_keptRow mo_keptMany mo_keptSecond mo_keptAsked mo_keptLooks mo_keptChanges mo_keptSeen mkeys_a mvalues_a mheights_a mheats_a msecondKeys_a msecondValues_a msecondHeights_a msecondHeats_a mkeptKeys_a mkeptValues_a mkeptHeights_a mkeptHeats_a mkeptKeys2_a mkeptValues2_a mkeptHeights2_a mkeptHeats2_a) (e2 : (r2, n_mo_foundAt, n_mo_foundLooks, n_mo_foundLane) = fn_X12_change mo_many mo_foundAt mo_foundLooks mo_foundLane mkeys_a mheights_a mheats_a a) : (fn_X11_change_N a) = r2 ∧ re_N (cl + 1) x_rowsRead x_rowOfImage x_bestsDone nw_asked nw_looksOfAsked nw_changes nwf_size nwfk_a nwfv_a nwfh_a nwft_a nws_size nwsk_a nwsv_a nwsh_a nwst_a nwe_size kp_asked kp_looksOfAsked kp_changes kpf_size kpfk_a kpfv_a kpfh_a kpft_a kps_size kpsk_a kpsv_a kpsh_a kpst_a kpe_size mo_law mo_many mo_asked mo_looksAll mo_changes mo_rowsRead mo_secondMany mo_seenMany mo_bestsDone mo_keptRow mo_keptMany mo_keptSecond mo_keptAsked mo_keptLooks mo_keptChanges mo_keptSeen mkeys_a mvalues_a mheights_a mheats_a msecondKeys_a msecondValues_a msecondHeights_a msecondHeats_a mkeptKeys_a mkeptValues_a mkeptHeights_a mkeptHeats_a mkeptKeys2_a mkeptValues2_a mkeptHeights2_a mkeptHeats2_a := by
  have hU9 := re_upN hR
  obtain ⟨⟨b1, ⟨q1, q2, q3, q4, q5⟩, hT, hU, b5⟩, hn, hs, hr, hi⟩ := hR
  obtain rfl := hT.1
  obtain rfl := hU.1
  subst hn
  unfold fn_X12_change at e2
  unfold fn_X11_change_N
  rcases ra_in (a := a) (lo := 0) (hi := 2) 0 2 rfl rfl with ⟨d1, d2, d3⟩ | ⟨d1, d2⟩
  · rw [if_neg (show ¬ a < 0 from fun q => by have q1 : a.toInt < 0 := wk_lt q; omega), if_pos (show a ≤ 2 from Int32.le_iff_toInt_le.mpr d2)]
    rw [if_neg d3, if_neg re_lk0] at e2
    cases e2
    exact ⟨rfl, hU9⟩
  · rw [if_pos d2] at e2
    by_cases cD : a < 0
    · rw [if_pos cD]
      cases e2
      exact ⟨rfl, hU9⟩
    · have kD : ¬ a.toInt < 0 := wk_nlt cD
      rw [if_neg cD, if_neg (show ¬ a ≤ 2 from fun q => by have q1 : a.toInt ≤ 2 := wk_le q; omega)]
      cases e2
      exact ⟨rfl, hU9⟩
