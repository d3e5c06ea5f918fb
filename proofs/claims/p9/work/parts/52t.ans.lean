theorem ra_ilL {P : Int32 → Prop} {n : Int32} {f g : Nat → Int32} (h : ra_ag P n.toInt f g) (hn : n.toInt ≤ 8) (a : Int32) : ∀ (fu : Nat) (s x : Int32), 0 ≤ x.toInt → lp_X8_keysInLane_4 n f a fu s x = lp_X12_inLane_4 n g a fu s x := by
  intro fu
  induction fu with
  | zero => intro s x hx; rw [lp_X8_keysInLane_4, lp_X12_inLane_4]
  | succ fu ih =>
    intro s x hx
    rw [lp_X8_keysInLane_4, lp_X12_inLane_4]
    by_cases c : n ≤ x
    · simp only [if_pos c]
    · simp only [if_neg c]
      have kx := wk_nle c
      have h0 : 0 ≤ (x + 1).toInt := by rw [ra_inc (by omega) hx]; omega
      rw [(ra_at h hx (by omega)).1]
      by_cases d : g x.toNatClampNeg ≤ a
      · simp only [if_pos d]
        exact ih _ _ h0
      · simp only [if_neg d]
        exact ih _ _ h0
theorem ra_wgL {n a b y : Int32} {v h v' h' : Nat → Int32} (e1 : fn_X8_nextInLane n h a b = y) (e2 : fn_X12_nextIn n h' a b = y) (hy : y.toInt < n.toInt) (hn : n.toInt ≤ 8) (i2 : ra_ag ra_V n.toInt v v') : ∀ (fu : Nat) (s x : Int32), 0 ≤ x.toInt → lp_X8_weightFrom_35 n v h a b fu s x = lp_X12_weightOf_15 n v' h' a b fu s x := by
  intro fu
  induction fu with
  | zero => intro s x hx; rw [lp_X8_weightFrom_35, lp_X12_weightOf_15]
  | succ fu ih =>
    intro s x hx
    rw [lp_X8_weightFrom_35, lp_X12_weightOf_15, e1, e2]
    by_cases c : y < x
    · simp only [if_pos c]
    · simp only [if_neg c]
      have kx := wk_nlt c
      have h0 : 0 ≤ (x + 1).toInt := by rw [ra_inc (by omega) hx]; omega
      rw [(ra_at i2 hx (by omega)).1]
      exact ih _ _ h0
theorem ra_nxG {n : Int32} {g : Nat → Int32} (hn : n.toInt ≤ 8) (a b : Int32) : ∀ (fu : Nat) (x : Int32), 0 ≤ x.toInt → x.toInt ≤ 9 → 9 - x.toInt < (fu : Int) → ∀ i : Int32, x.toInt ≤ i.toInt → i.toInt < n.toInt → b.toInt < (g i.toNatClampNeg).toInt → ¬ lp_X12_nextIn_4 n g a b fu x = -1 ∧ (lp_X12_nextIn_4 n g a b fu x).toInt ≤ i.toInt := by
  intro fu
  induction fu with
  | zero => intro x h1 h2 h3; exfalso; omega
  | succ fu ih =>
    intro x h1 h2 h3 i h4 h5 h6
    rw [lp_X12_nextIn_4]
    by_cases c : n ≤ x
    · have kx := wk_le c
      exfalso; omega
    · simp only [if_neg c]
      have kx := wk_nle c
      by_cases d : g x.toNatClampNeg ≤ b
      · simp only [if_pos d]
        have kd := wk_le d
        have e := ra_inc (x := x) (by omega) h1
        have q : ¬ i = x := fun q => by rw [q] at h6; omega
        have q2 : ¬ i.toInt = x.toInt := wk_neq q
        exact ih (x + 1) (by omega) (by omega) (by omega) i (by omega) h5 h6
      · simp only [if_neg d]
        exact ⟨fun q => by have q1 : x.toInt = -1 := wk_eq q; omega, h4⟩
theorem ra_wdL {n a : Int32} {f g : Nat → Int32} (h : ra_ag ra_H n.toInt f g) (hn : 0 ≤ n.toInt ∧ n.toInt ≤ 8) : ∀ (fu fv : Nat) (x m mo at1 nx : Int32), 0 ≤ x.toInt → x.toInt ≤ n.toInt → n.toInt - x.toInt < (fu : Int) → n.toInt - at1.toInt + 1 < (fv : Int) → (-1 ≤ at1.toInt ∧ at1.toInt < x.toInt) → nx = fn_X12_nextIn n g at1 a → (nx = -1 ∨ x.toInt ≤ nx.toInt) → -1 ≤ mo.toInt → (nx = -1 ∧ m = mo ∨ ¬ nx = -1 ∧ (mo.toInt ≤ nx.toInt - at1.toInt ∧ m.toInt = nx.toInt - at1.toInt ∨ nx.toInt - at1.toInt ≤ mo.toInt ∧ m = mo)) →
    (lp_X8_greatestWidth_9 n f a fu m x).1 = (lp_X12_widest_12 n g a fv mo at1 nx).1 := by
  intro fu
  induction fu with
  | zero => intro fv x m mo at1 nx h1 h2 h3; exfalso; omega
  | succ fu ih =>
    intro fv x m mo at1 nx h1 h2 h3 h4 h5 h6 h7 h8 h9
    have hr := ra_nxR (n := n) (g := g) hn.2 (x := at1) (b := a) (by omega)
    rw [← h6] at hr
    rw [lp_X8_greatestWidth_9]
    by_cases c : n ≤ x
    · have kx := wk_le c
      simp only [if_pos c]
      have en : nx = -1 := by
        rcases h7 with q | q
        · exact q
        · rcases hr with q2 | ⟨q2, q3, q4⟩
          · exact q2
          · exfalso; omega
      obtain ⟨fw, rfl⟩ : ∃ fw, fv = fw + 1 := ⟨fv - 1, by omega⟩
      rw [lp_X12_widest_12]
      simp only [if_pos en]
      rcases h9 with ⟨q1, q2⟩ | ⟨q1, q2⟩
      · exact q2
      · exact absurd en q1
    · have kx := wk_nle c
      simp only [if_neg c]
      have e := ra_inc (x := x) (by omega) h1
      have km : -1 ≤ m.toInt := by
        rcases h9 with ⟨q1, q2⟩ | ⟨q1, q2 | q2⟩
        · rw [q2]; exact h8
        · rcases hr with q3 | ⟨q3, q4, q5⟩
          · exact absurd q3 q1
          · omega
        · rw [q2.2]; exact h8
      unfold fn_X8_widthFrom fn_X8_reaches
      rw [ra_nx h hn.2 (x := x) (by omega) a, (ra_at h h1 (by omega)).1, if_neg (show ¬ x = -1 from fun q => by have q1 : x.toInt = -1 := wk_eq q; omega)]
      by_cases d : g x.toNatClampNeg ≤ a
      · have kd := wk_le d
        have nxx : ¬ nx = x := by
          intro q
          rcases hr with q2 | ⟨q2, q3, q4⟩
          · rw [q2] at q; have q1 : (-1 : Int) = x.toInt := wk_eq q; omega
          · rw [q] at q4; omega
        have kxx : ¬ nx.toInt = x.toInt := wk_neq nxx
        have em : (if m < (if fn_X12_nextIn n g x a = -1 then (-1 : Int32) else if (if g x.toNatClampNeg ≤ a then (0 : Int32) else 1) = 0 then -1 else fn_X12_nextIn n g x a - x) then (if fn_X12_nextIn n g x a = -1 then (-1 : Int32) else if (if g x.toNatClampNeg ≤ a then (0 : Int32) else 1) = 0 then -1 else fn_X12_nextIn n g x a - x) else m) = m := by
          have ez : (if fn_X12_nextIn n g x a = -1 then (-1 : Int32) else if (if g x.toNatClampNeg ≤ a then (0 : Int32) else 1) = 0 then -1 else fn_X12_nextIn n g x a - x) = -1 := by
            rw [if_pos d, if_pos rfl]
            by_cases q : fn_X12_nextIn n g x a = -1
            · rw [if_pos q]
            · rw [if_neg q]
          rw [ez]
          exact if_neg (fun q => by have q1 : m.toInt < -1 := wk_lt q; omega)
        rw [em]
        exact ih fv (x + 1) m mo at1 nx (by omega) (by omega) (by omega) h4 (by omega) h6 (by rcases h7 with q | q; exact Or.inl q; exact Or.inr (by omega)) h8 h9
      · have kd := wk_nle d
        have hg := ra_nxG (n := n) (g := g) hn.2 at1 a 10 (at1 + 1) (by rw [wk_add at1.toInt 1 rfl rfl (by omega) (by omega)]; omega) (by rw [wk_add at1.toInt 1 rfl rfl (by omega) (by omega)]; omega) (by rw [wk_add at1.toInt 1 rfl rfl (by omega) (by omega)]; omega) x (by rw [wk_add at1.toInt 1 rfl rfl (by omega) (by omega)]; omega) (by omega) (by omega)
        have hg1 : ¬ nx = -1 ∧ nx.toInt ≤ x.toInt := by rw [h6]; exact hg
        have en : nx = x := Int32.toInt_inj.mp (by rcases h7 with q | q; exact absurd q hg1.1; omega)
        obtain ⟨fw, rfl⟩ : ∃ fw, fv = fw + 1 := ⟨fv - 1, by omega⟩
        rw [lp_X12_widest_12]
        simp only [if_neg hg1.1]
        have kn : nx.toInt = x.toInt := wk_eq en
        have ed : (nx - at1).toInt = nx.toInt - at1.toInt := wk_sub _ _ rfl rfl (by omega) (by omega)
        obtain ⟨m1, em1⟩ : ∃ m1 : Int32, m1 = if (nx - at1) ≤ mo then mo else nx - at1 := ⟨_, rfl⟩
        have kk : (if nx - at1 ≤ mo then lp_X12_widest_12 n g a fw mo nx (fn_X12_nextIn n g nx a) else lp_X12_widest_12 n g a fw (nx - at1) nx (fn_X12_nextIn n g nx a)) = lp_X12_widest_12 n g a fw m1 nx (fn_X12_nextIn n g nx a) := by
          rw [em1]
          by_cases q : (nx - at1) ≤ mo
          · rw [if_pos q, if_pos q]
          · rw [if_neg q, if_neg q]
        rw [kk]
        have e1 : m1 = m := by
          rw [em1]
          rcases h9 with ⟨q1, q2⟩ | ⟨q1, ⟨q2, q3⟩ | ⟨q2, q3⟩⟩
          · exact absurd q1 hg1.1
          · by_cases q : (nx - at1) ≤ mo
            · have kq := wk_le q
              rw [if_pos q]
              exact Int32.toInt_inj.mp (by omega)
            · rw [if_neg q]
              exact Int32.toInt_inj.mp (by omega)
          · rw [if_pos (Int32.le_iff_toInt_le.mpr (by omega)), q3]
        rw [e1, en, if_neg d, if_neg (show ¬ (1 : Int32) = 0 by decide)]
        have hr2 := ra_nxR (n := n) (g := g) hn.2 (x := x) (b := a) (by omega)
        obtain ⟨ny, eny⟩ : ∃ ny : Int32, ny = fn_X12_nextIn n g x a := ⟨_, rfl⟩
        rw [← eny]
        rw [← eny] at hr2
        by_cases q : ny = -1
        · rw [if_pos q, if_neg (show ¬ m < -1 from fun u => by have u1 : m.toInt < -1 := wk_lt u; omega)]
          exact ih fw (x + 1) m m x ny (by omega) (by omega) (by omega) (by omega) (by omega) eny (Or.inl q) km (Or.inl ⟨q, rfl⟩)
        · obtain ⟨u1, u2, u3⟩ := hr2.resolve_left q
          have ed2 : (ny - x).toInt = ny.toInt - x.toInt := wk_sub _ _ rfl rfl (by omega) (by omega)
          rw [if_neg q]
          by_cases w : m < ny - x
          · have kw := wk_lt w
            rw [if_pos w]
            exact ih fw (x + 1) (ny - x) m x ny (by omega) (by omega) (by omega) (by omega) (by omega) eny (Or.inr (by omega)) km (Or.inr ⟨q, Or.inl ⟨by omega, ed2⟩⟩)
          · have kw := wk_nlt w
            rw [if_neg w]
            exact ih fw (x + 1) m m x ny (by omega) (by omega) (by omega) (by omega) (by omega) eny (Or.inr (by omega)) km (Or.inr ⟨q, Or.inr ⟨by omega, rfl⟩⟩)
theorem re_lane_R {cl lc : Nat} {x_rowsRead : Int32} {x_rowOfImage : Int32} {x_bestsDone : Int32} {nw_asked : Int32} {nw_looksOfAsked : Int32} {nw_changes : Int32} {nwf_size : Int32} {nwfk_a : Nat → Int32} {nwfv_a : Nat → Int32} {nwfh_a : Nat → Int32} {nwft_a : Nat → Int32} {nws_size : Int32} {nwsk_a : Nat → Int32} {nwsv_a : Nat → Int32} {nwsh_a : Nat → Int32} {nwst_a : Nat → Int32} {nwe_size : Int32} {kp_asked : Int32} {kp_looksOfAsked : Int32} {kp_changes : Int32} {kpf_size : Int32} {kpfk_a : Nat → Int32} {kpfv_a : Nat → Int32} {kpfh_a : Nat → Int32} {kpft_a : Nat → Int32} {kps_size : Int32} {kpsk_a : Nat → Int32} {kpsv_a : Nat → Int32} {kpsh_a : Nat → Int32} {kpst_a : Nat → Int32} {kpe_size : Int32} {mo_law : Int32} {mo_many : Int32} {mo_asked : Int32} {mo_looksAll : Int32} {mo_changes : Int32} {mo_rowsRead : Int32} {mo_secondMany : Int32} {mo_seenMany : Int32} {mo_bestsDone : Int32} {mo_keptRow : Int32} {mo_keptMany : Int32} {mo_keptSecond : Int32} {mo_keptAsked : Int32} {mo_keptLooks : Int32} {mo_keptChanges : Int32} {mo_keptSeen : Int32} {mkeys_a : Nat → Int32} {mvalues_a : Nat → Int32} {mheights_a : Nat → Int32} {mheats_a : Nat → Int32} {msecondKeys_a : Nat → Int32} {msecondValues_a : Nat → Int32} {msecondHeights_a : Nat → Int32} {msecondHeats_a : Nat → Int32} {mkeptKeys_a : Nat → Int32} {mkeptValues_a : Nat → Int32} {mkeptHeights_a : Nat → Int32} {mkeptHeats_a : Nat → Int32} {mkeptKeys2_a : Nat → Int32} {mkeptValues2_a : Nat → Int32} {mkeptHeights2_a : Nat → Int32} {mkeptHeats2_a : Nat → Int32} {a : Int32} {b : Int32}   (hR : re_R cl lc x_rowsRead x_rowOfImage x_bestsDone nw_asked nw_looksOfAsked nw_changes nwf_size nwfk_a nwfv_a nwfh_a nwft_a nws_size nwsk_a nwsv_a nwsh_a nwst_a nwe_size kp_asked kp_looksOfAsked kp_changes kpf_size kpfk_a kpfv_a kpfh_a kpft_a kps_size kpsk_a kpsv_a kpsh_a kpst_a kpe_size mo_law mo_many mo_asked mo_looksAll mo_changes mo_rowsRead mo_secondMany mo_seenMany mo_bestsDone mo_keptRow mo_keptMany mo_keptSecond mo_keptAsked mo_keptLooks mo_keptChanges mo_keptSeen mkeys_a mvalues_a mheights_a mheats_a msecondKeys_a msecondValues_a msecondHeights_a msecondHeats_a mkeptKeys_a mkeptValues_a mkeptHeights_a mkeptHeats_a mkeptKeys2_a mkeptValues2_a mkeptHeights2_a mkeptHeats2_a)  : (fn_X11_lane_R nwf_size nwfv_a nwfh_a a b) = (fn_X12_lane mo_many mvalues_a mheights_a a b) ∧ re_R (cl + 1) lc x_rowsRead x_rowOfImage x_bestsDone nw_asked nw_looksOfAsked nw_changes nwf_size nwfk_a nwfv_a nwfh_a nwft_a nws_size nwsk_a nwsv_a nwsh_a nwst_a nwe_size kp_asked kp_looksOfAsked kp_changes kpf_size kpfk_a kpfv_a kpfh_a kpft_a kps_size kpsk_a kpsv_a kpsh_a kpst_a kpe_size mo_law mo_many mo_asked mo_looksAll mo_changes mo_rowsRead mo_secondMany mo_seenMany mo_bestsDone mo_keptRow mo_keptMany mo_keptSecond mo_keptAsked mo_keptLooks mo_keptChanges mo_keptSeen mkeys_a mvalues_a mheights_a mheats_a msecondKeys_a msecondValues_a msecondHeights_a msecondHeats_a mkeptKeys_a mkeptValues_a mkeptHeights_a mkeptHeats_a mkeptKeys2_a mkeptValues2_a mkeptHeights2_a mkeptHeats2_a := by
  have hU9 := re_upR hR
  obtain ⟨⟨b1, ⟨q1, q2, q3, q4, q5⟩, hT, hU, b5⟩, hk, hn, hr⟩ := hR
  obtain rfl := hT.1
  obtain rfl := hU.1
  obtain ⟨-, hn8, i1, i2, i3, i4⟩ := id hT
  have z1 : (-1 : Int32).toInt = -1 := rfl
  refine ⟨?_, hU9⟩
  unfold fn_X11_lane_R fn_X12_lane
  rw [if_pos (ra_lacks (n := nwf_size) (by omega))]
  rcases ra_in (a := a) (lo := 0) (hi := 3) 0 3 rfl rfl with ⟨a1, a2, a3⟩ | ⟨a1, a2⟩
  · rw [if_neg (show ¬ a < 0 from fun q => by have q1 : a.toInt < 0 := wk_lt q; omega), if_pos (show a < 4 from Int32.lt_iff_toInt_lt.mpr (show a.toInt < 4 by omega)), if_neg a3]
    unfold fn_X12_tellLane
    have en := ra_nx i3 hn8.2 (x := -1) (by omega) a
    have er : fn_X8_reaches nwfh_a (-1) a = 1 := by unfold fn_X8_reaches; exact if_pos rfl
    have g1 : fn_X8_keysInLane nwf_size nwfh_a a = fn_X12_inLane nwf_size mheights_a a := by
      unfold fn_X8_keysInLane fn_X12_inLane
      rw [ra_ilL i3 hn8.2 a 10 0 0 (by decide)]
    have g2 : fn_X8_widthFrom nwf_size nwfh_a (-1) a = fn_X12_widthOf nwf_size mheights_a (-1) a := by
      unfold fn_X8_widthFrom fn_X12_widthOf
      rw [en, er, if_neg (show ¬ (1 : Int32) = 0 by decide)]
    have hr := ra_nxR (n := nwf_size) (g := mheights_a) hn8.2 (x := -1) (b := a) (by omega)
    have g3 : fn_X8_weightFrom nwf_size nwfv_a nwfh_a (-1) a = fn_X12_weightOf nwf_size mvalues_a mheights_a (-1) a := by
      unfold fn_X8_weightFrom fn_X12_weightOf
      rw [er, if_neg (show ¬ (1 : Int32) = 0 by decide)]
      by_cases q : fn_X12_nextIn nwf_size mheights_a (-1) a = -1
      · rw [en, if_pos q]
        simp only [ra_pm2, if_pos q]
      · obtain ⟨u1, u2, u3⟩ := hr.resolve_left q
        rw [ra_wgL (y := fn_X12_nextIn nwf_size mheights_a (-1) a) en rfl u2 hn8.2 i2 10 0 (-1 + 1) (by decide), en, if_neg q]
        simp only [ra_pm2, if_neg q]
    have g4 : fn_X8_greatestWidth nwf_size nwfh_a a = fn_X12_widest nwf_size mheights_a a := by
      unfold fn_X8_greatestWidth fn_X12_widest
      simp only [ra_pm2]
      have z : (0 : Int32).toInt = 0 := rfl
      refine ra_wdL i3 hn8 10 12 0 _ (-1) (-1) _ (by omega) (by omega) (by omega) (by omega) (by omega) rfl ?_ (by omega) ?_
      · rcases hr with q | ⟨u1, u2, u3⟩
        · exact Or.inl q
        · exact Or.inr (by omega)
      · rw [g2]
        unfold fn_X12_widthOf
        by_cases q : fn_X12_nextIn nwf_size mheights_a (-1) a = -1
        · exact Or.inl ⟨q, if_pos q⟩
        · obtain ⟨u1, u2, u3⟩ := hr.resolve_left q
          rw [if_neg q]
          have ed : (fn_X12_nextIn nwf_size mheights_a (-1) a - (-1)).toInt = (fn_X12_nextIn nwf_size mheights_a (-1) a).toInt - (-1) := wk_sub _ (-1) rfl rfl (by omega) (by omega)
          exact Or.inr ⟨q, Or.inl ⟨by omega, by omega⟩⟩
    rw [g1, g2, g3, g4]
  · rw [if_pos a2]
    by_cases cD : a < 0
    · rw [if_pos cD]
    · have kD : ¬ a.toInt < 0 := wk_nlt cD
      rw [if_neg cD, if_neg (show ¬ a < 4 from fun q => by have q1 : a.toInt < 4 := wk_lt q; omega)]
theorem re_lane_N {cl : Nat} {x_rowsRead : Int32} {x_rowOfImage : Int32} {x_bestsDone : Int32} {nw_asked : Int32} {nw_looksOfAsked : Int32} {nw_changes : Int32} {nwf_size : Int32} {nwfk_a : Nat → Int32} {nwfv_a : Nat → Int32} {nwfh_a : Nat → Int32} {nwft_a : Nat → Int32} {nws_size : Int32} {nwsk_a : Nat → Int32} {nwsv_a : Nat → Int32} {nwsh_a : Nat → Int32} {nwst_a : Nat → Int32} {nwe_size : Int32} {kp_asked : Int32} {kp_looksOfAsked : Int32} {kp_changes : Int32} {kpf_size : Int32} {kpfk_a : Nat → Int32} {kpfv_a : Nat → Int32} {kpfh_a : Nat → Int32} {kpft_a : Nat → Int32} {kps_size : Int32} {kpsk_a : Nat → Int32} {kpsv_a : Nat → Int32} {kpsh_a : Nat → Int32} {kpst_a : Nat → Int32} {kpe_size : Int32} {mo_law : Int32} {mo_many : Int32} {mo_asked : Int32} {mo_looksAll : Int32} {mo_changes : Int32} {mo_rowsRead : Int32} {mo_secondMany : Int32} {mo_seenMany : Int32} {mo_bestsDone : Int32} {mo_keptRow : Int32} {mo_keptMany : Int32} {mo_keptSecond : Int32} {mo_keptAsked : Int32} {mo_keptLooks : Int32} {mo_keptChanges : Int32} {mo_keptSeen : Int32} {mkeys_a : Nat → Int32} {mvalues_a : Nat → Int32} {mheights_a : Nat → Int32} {mheats_a : Nat → Int32} {msecondKeys_a : Nat → Int32} {msecondValues_a : Nat → Int32} {msecondHeights_a : Nat → Int32} {msecondHeats_a : Nat → Int32} {mkeptKeys_a : Nat → Int32} {mkeptValues_a : Nat → Int32} {mkeptHeights_a : Nat → Int32} {mkeptHeats_a : Nat → Int32} {mkeptKeys2_a : Nat → Int32} {mkeptValues2_a : Nat → Int32} {mkeptHeights2_a : Nat → Int32} {mkeptHeats2_a : Nat → Int32} {a : Int32} {b : Int32}   (hR : re_N cl x_rowsRead x_rowOfImage x_bestsDone nw_asked nw_looksOfAsked nw_changes nwf_size nwfk_a nwfv_a nwfh_a nwft_a nws_size nwsk_a nwsv_a nwsh_a nwst_a nwe_size kp_asked kp_looksOfAsked kp_changes kpf_size kpfk_a kpfv_a kpfh_a kpft_a kps_size kpsk_a kpsv_a kpsh_a kpst_a kpe_size mo_law mo_many mo_asked mo_looksAll mo_changes mo_rowsRead mo_secondMany mo_seenMany mo_bestsDone mo_keptRow mo_keptMany mo_keptSecond mo_keptAsked mo_keptLooks mo_keptChanges mo_keptSeen mkeys_a mvalues_a mheights_a mheats_a msecondKeys_a msecondValues_a msecondHeights_a msecondHeats_a mkeptKeys_a mkeptValues_a mkeptHeights_a mkeptHeats_a mkeptKeys2_a mkeptValues2_a mkeptHeights2_a mkeptHeats2_a)  : (fn_X11_lane_N a b) = (fn_X12_lane mo_many mvalues_a mheights_a a b) ∧ re_N (cl + 1) x_rowsRead x_rowOfImage x_bestsDone nw_asked nw_looksOfAsked nw_changes nwf_size nwfk_a nwfv_a nwfh_a nwft_a nws_size nwsk_a nwsv_a nwsh_a nwst_a nwe_size kp_asked kp_looksOfAsked kp_changes kpf_size kpfk_a kpfv_a kpfh_a kpft_a kps_size kpsk_a kpsv_a kpsh_a kpst_a kpe_size mo_law mo_many mo_asked mo_looksAll mo_changes mo_rowsRead mo_secondMany mo_seenMany mo_bestsDone mo_keptRow mo_keptMany mo_keptSecond mo_keptAsked mo_keptLooks mo_keptChanges mo_keptSeen mkeys_a mvalues_a mheights_a mheats_a msecondKeys_a msecondValues_a msecondHeights_a msecondHeats_a mkeptKeys_a mkeptValues_a mkeptHeights_a mkeptHeats_a mkeptKeys2_a mkeptValues2_a mkeptHeights2_a mkeptHeats2_a := by
  have hU9 := re_upN hR
  obtain ⟨⟨b1, ⟨q1, q2, q3, q4, q5⟩, hT, hU, b5⟩, hn, hs, hr, hi⟩ := hR
  obtain rfl := hT.1
  obtain rfl := hU.1
  subst hn
  refine ⟨?_, hU9⟩
  unfold fn_X11_lane_N fn_X12_lane
  rw [if_neg re_lk0]
