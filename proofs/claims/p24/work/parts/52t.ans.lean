theorem ra_rnL {n a b d b2 d2 z1 z2 z3 y1 y2 y3 y4 : Int32} {k h k' h' : Nat → Int32} (hn : 0 ≤ n.toInt ∧ n.toInt ≤ 8) (i1 : ra_ag ra_K n.toInt k k') (i3 : ra_ag ra_H n.toInt h h') : ∀ (fu : Nat) (sd fo lo x w1 w2 w3 m1 m2 m3 : Int32), 
    (∃ (sd2 fo2 lo2 x2 p1 p2 p3 s1 s2 s3 : Int32), lp_X11_rounds_R_49 n k h z1 z2 z3 a b d fu sd fo lo x w1 w2 w3 = (sd2, fo2, lo2, x2, p1, p2, p3) ∧ lp_X12_rounds_55 n y1 y2 y3 y4 k' h' a b2 d2 fu fo lo x m1 m2 m3 sd = (fo2, lo2, x2, s1, s2, s3, sd2)) := by
  intro fu
  induction fu with
  | zero =>
    intro sd fo lo x w1 w2 w3 m1 m2 m3
    rw [lp_X11_rounds_R_49, lp_X12_rounds_55]
    exact ⟨_, _, _, _, _, _, _, _, _, _, rfl, rfl⟩
  | succ fu ih =>
    intro sd fo lo x w1 w2 w3 m1 m2 m3
    rw [lp_X11_rounds_R_49, lp_X12_rounds_55]
    by_cases c : a ≤ x
    · simp only [if_pos c]
      exact ⟨sd, fo, lo, x, w1, w2, w3, m1, m2, m3, rfl, rfl⟩
    · simp only [if_neg c]
      unfold fn_X12_draw
      rw [ra_pm2]
      have es : fn_X11_seedBehind sd = ((1103515245 * sd.toInt64 + 12345) &&& 2147483647).toInt32 := rfl
      rw [← es]
      obtain ⟨y, ey⟩ : ∃ y : Int32, y = fn_X11_seedBehind sd := ⟨_, rfl⟩
      rw [← ey]
      obtain ⟨F, L, S, q1, q2, q3⟩ := ra_go hn i1 i3 w1 w2 w3 m1 m2 m3 (y / 65536 - y / 65536 / 100 * 100)
      simp only [ra_pm2, q1, q2]
      by_cases e : F = -1
      · simp only [if_pos e]
        exact ih _ _ _ _ _ _ _ _ _ _
      · simp only [if_neg e]
        exact ih _ _ _ _ _ _ _ _ _ _
theorem re_rounds_R {cl lc : Nat} {x_rowsRead : Int32} {x_rowOfImage : Int32} {x_bestsDone : Int32} {nw_asked : Int32} {nw_looksOfAsked : Int32} {nw_changes : Int32} {nwf_size : Int32} {nwfk_a : Nat → Int32} {nwfv_a : Nat → Int32} {nwfh_a : Nat → Int32} {nwft_a : Nat → Int32} {nws_size : Int32} {nwsk_a : Nat → Int32} {nwsv_a : Nat → Int32} {nwsh_a : Nat → Int32} {nwst_a : Nat → Int32} {nwe_size : Int32} {kp_asked : Int32} {kp_looksOfAsked : Int32} {kp_changes : Int32} {kpf_size : Int32} {kpfk_a : Nat → Int32} {kpfv_a : Nat → Int32} {kpfh_a : Nat → Int32} {kpft_a : Nat → Int32} {kps_size : Int32} {kpsk_a : Nat → Int32} {kpsv_a : Nat → Int32} {kpsh_a : Nat → Int32} {kpst_a : Nat → Int32} {kpe_size : Int32} {mo_law : Int32} {mo_many : Int32} {mo_asked : Int32} {mo_looksAll : Int32} {mo_changes : Int32} {mo_rowsRead : Int32} {mo_secondMany : Int32} {mo_seenMany : Int32} {mo_bestsDone : Int32} {mo_keptRow : Int32} {mo_keptMany : Int32} {mo_keptSecond : Int32} {mo_keptAsked : Int32} {mo_keptLooks : Int32} {mo_keptChanges : Int32} {mo_keptSeen : Int32} {mkeys_a : Nat → Int32} {mvalues_a : Nat → Int32} {mheights_a : Nat → Int32} {mheats_a : Nat → Int32} {msecondKeys_a : Nat → Int32} {msecondValues_a : Nat → Int32} {msecondHeights_a : Nat → Int32} {msecondHeats_a : Nat → Int32} {mkeptKeys_a : Nat → Int32} {mkeptValues_a : Nat → Int32} {mkeptHeights_a : Nat → Int32} {mkeptHeats_a : Nat → Int32} {mkeptKeys2_a : Nat → Int32} {mkeptValues2_a : Nat → Int32} {mkeptHeights2_a : Nat → Int32} {mkeptHeats2_a : Nat → Int32} {wk_number : Int32} {wk_lane : Int32} {wk_looks : Int32} {a : Int32} {b : Int32} {d : Int32} {mo_foundAt : Int32} {mo_foundLooks : Int32} {mo_foundLane : Int32} {mo_seedNow : Int32} {n_wk_number : Int32} {n_wk_lane : Int32} {n_wk_looks : Int32} {n_mo_foundAt : Int32} {n_mo_foundLooks : Int32} {n_mo_foundLane : Int32} {n_mo_seedNow : Int32} {r r2 : Int32} (hR : re_R cl lc x_rowsRead x_rowOfImage x_bestsDone nw_asked nw_looksOfAsked nw_changes nwf_size nwfk_a nwfv_a nwfh_a nwft_a nws_size nwsk_a nwsv_a nwsh_a nwst_a nwe_size kp_asked kp_looksOfAsked kp_changes kpf_size kpfk_a kpfv_a kpfh_a kpft_a kps_size kpsk_a kpsv_a kpsh_a kpst_a kpe_size mo_law mo_many mo_asked mo_looksAll mo_changes mo_rowsRead mo_secondMany mo_seenMany mo_bestsDone mo_keptRow mo_keptMany mo_keptSecond mo_keptAsked mo_keptLooks mo_keptChanges mo_keptSeen mkeys_a mvalues_a mheights_a mheats_a msecondKeys_a msecondValues_a msecondHeights_a msecondHeats_a mkeptKeys_a mkeptValues_a mkeptHeights_a mkeptHeats_a mkeptKeys2_a mkeptValues2_a mkeptHeights2_a mkeptHeats2_a) (e1 : (r, n_wk_number, n_wk_lane, n_wk_looks) = fn_X11_rounds_R nwf_size nwfk_a nwfh_a wk_number wk_lane wk_looks a b d) (e2 : (r2, n_mo_foundAt, n_mo_foundLooks, n_mo_foundLane, n_mo_seedNow) = fn_X12_rounds mo_many mo_foundAt mo_foundLooks mo_foundLane mo_seedNow mkeys_a mheights_a a b d) : r = r2 ∧ re_R (cl + 1) lc x_rowsRead x_rowOfImage x_bestsDone nw_asked nw_looksOfAsked nw_changes nwf_size nwfk_a nwfv_a nwfh_a nwft_a nws_size nwsk_a nwsv_a nwsh_a nwst_a nwe_size kp_asked kp_looksOfAsked kp_changes kpf_size kpfk_a kpfv_a kpfh_a kpft_a kps_size kpsk_a kpsv_a kpsh_a kpst_a kpe_size mo_law mo_many mo_asked mo_looksAll mo_changes mo_rowsRead mo_secondMany mo_seenMany mo_bestsDone mo_keptRow mo_keptMany mo_keptSecond mo_keptAsked mo_keptLooks mo_keptChanges mo_keptSeen mkeys_a mvalues_a mheights_a mheats_a msecondKeys_a msecondValues_a msecondHeights_a msecondHeats_a mkeptKeys_a mkeptValues_a mkeptHeights_a mkeptHeats_a mkeptKeys2_a mkeptValues2_a mkeptHeights2_a mkeptHeats2_a := by
  have hU9 := re_upR hR
  obtain ⟨⟨b1, ⟨q1, q2, q3, q4, q5⟩, hT, hU, b5⟩, hk, hn, hr⟩ := hR
  obtain rfl := hT.1
  obtain rfl := hU.1
  obtain ⟨-, hn8, i1, i2, i3, i4⟩ := id hT
  unfold fn_X11_rounds_R at e1
  unfold fn_X12_rounds at e2
  rcases ra_in (a := a) (lo := 1) (hi := 60) 1 60 rfl rfl with ⟨a1, a2, a3⟩ | ⟨a1, a2⟩
  · rw [if_neg (show ¬ a < 1 from fun q => by have q1 : a.toInt < 1 := wk_lt q; omega), if_neg (show ¬ 60 < a from fun q => by have q1 : 60 < a.toInt := wk_lt q; omega)] at e1
    rw [if_neg a3] at e2
    by_cases cb : b < 0
    · rw [if_pos cb] at e1
      rw [if_pos cb] at e2
      cases e1
      cases e2
      exact ⟨rfl, hU9⟩
    · rw [if_neg cb] at e1
      rw [if_neg cb] at e2
      rcases ra_in (a := d) (lo := 0) (hi := 2) 0 2 rfl rfl with ⟨d1, d2, d3⟩ | ⟨d1, d2⟩
      · rw [if_neg (show ¬ d < 0 from fun q => by have q1 : d.toInt < 0 := wk_lt q; omega), if_pos (show d ≤ 2 from Int32.le_iff_toInt_le.mpr d2)] at e1
        rw [if_neg d3, if_pos (ra_lacks (n := nwf_size) (by omega))] at e2
        obtain ⟨sd2, fo2, lo2, x2, p1, p2, p3, s1, s2, s3, g1, g2⟩ := ra_rnL (a := a) (b := b) (d := d) (b2 := b) (d2 := d) (z1 := wk_number) (z2 := wk_lane) (z3 := wk_looks) (y1 := mo_foundAt) (y2 := mo_foundLooks) (y3 := mo_foundLane) (y4 := mo_seedNow) hn8 i1 i3 62 b 0 0 0 wk_number wk_lane wk_looks mo_foundAt mo_foundLooks mo_foundLane
        rw [g1] at e1
        rw [g2] at e2
        simp only [ra_pm2] at e1 e2
        by_cases c0 : d = 0
        · simp only [if_pos c0] at e1 e2
          cases e1
          cases e2
          exact ⟨rfl, hU9⟩
        · simp only [if_neg c0] at e1 e2
          by_cases c1 : d = 1
          · simp only [if_pos c1] at e1 e2
            cases e1
            cases e2
            exact ⟨rfl, hU9⟩
          · simp only [if_neg c1] at e1 e2
            cases e1
            cases e2
            exact ⟨rfl, hU9⟩
      · rw [if_pos d2] at e2
        by_cases cD : d < 0
        · rw [if_pos cD] at e1
          cases e1
          cases e2
          exact ⟨rfl, hU9⟩
        · have kD : ¬ d.toInt < 0 := wk_nlt cD
          rw [if_neg cD, if_neg (show ¬ d ≤ 2 from fun q => by have q1 : d.toInt ≤ 2 := wk_le q; omega)] at e1
          cases e1
          cases e2
          exact ⟨rfl, hU9⟩
  · rw [if_pos a2] at e2
    by_cases cD : a < 1
    · rw [if_pos cD] at e1
      cases e1
      cases e2
      exact ⟨rfl, hU9⟩
    · have kD : ¬ a.toInt < 1 := wk_nlt cD
      rw [if_neg cD, if_pos (show 60 < a from Int32.lt_iff_toInt_lt.mpr (show 60 < a.toInt by omega))] at e1
      cases e1
      cases e2
      exact ⟨rfl, hU9⟩
theorem re_rounds_N {cl : Nat} {x_rowsRead : Int32} {x_rowOfImage : Int32} {x_bestsDone : Int32} {nw_asked : Int32} {nw_looksOfAsked : Int32} {nw_changes : Int32} {nwf_size : Int32} {nwfk_a : Nat → Int32} {nwfv_a : Nat → Int32} {nwfh_a : Nat → Int32} {nwft_a : Nat → Int32} {nws_size : Int32} {nwsk_a : Nat → Int32} {nwsv_a : Nat → Int32} {nwsh_a : Nat → Int32} {nwst_a : Nat → Int32} {nwe_size : Int32} {kp_asked : Int32} {kp_looksOfAsked : Int32} {kp_changes : Int32} {kpf_size : Int32} {kpfk_a : Nat → Int32} {kpfv_a : Nat → Int32} {kpfh_a : Nat → Int32} {kpft_a : Nat → Int32} {kps_size : Int32} {kpsk_a : Nat → Int32} {kpsv_a : Nat → Int32} {kpsh_a : Nat → Int32} {kpst_a : Nat → Int32} {kpe_size : Int32} {mo_law : Int32} {mo_many : Int32} {mo_asked : Int32} {mo_looksAll : Int32} {mo_changes : Int32} {mo_rowsRead : Int32} {mo_secondMany : Int32} {mo_seenMany : Int32} {mo_bestsDone : Int32} {mo_keptRow : Int32} {mo_keptMany : Int32} {mo_keptSecond : Int32} {mo_keptAsked : Int32} {mo_keptLooks : Int32} {mo_keptChanges : Int32} {mo_keptSeen : Int32} {mkeys_a : Nat → Int32} {mvalues_a : Nat → Int32} {mheights_a : Nat → Int32} {mheats_a : Nat → Int32} {msecondKeys_a : Nat → Int32} {msecondValues_a : Nat → Int32} {msecondHeights_a : Nat → Int32} {msecondHeats_a : Nat → Int32} {mkeptKeys_a : Nat → Int32} {mkeptValues_a : Nat → Int32} {mkeptHeights_a : Nat → Int32} {mkeptHeats_a : Nat → Int32} {mkeptKeys2_a : Nat → Int32} {mkeptValues2_a : Nat → Int32} {mkeptHeights2_a : Nat → Int32} {mkeptHeats2_a : Nat → Int32} {a : Int32} {b : Int32} {d : Int32} {mo_foundAt : Int32} {mo_foundLooks : Int32} {mo_foundLane : Int32} {mo_seedNow : Int32} {n_mo_foundAt : Int32} {n_mo_foundLooks : Int32} {n_mo_foundLane : Int32} {n_mo_seedNow : Int32} {r2 : Int32} (hR : re_N cl x_rowsRead x_rowOfImage x_bestsDone nw_asked nw_looksOfAsked nw_changes nwf_size nwfk_a nwfv_a nwfh_a nwft_a nws_size nwsk_a nwsv_a nwsh_a nwst_a nwe_size kp_asked kp_looksOfAsked kp_changes kpf_size kpfk_a kpfv_a kpfh_a kpft_a kps_size kpsk_a kpsv_a kpsh_a kpst_a kpe_size mo_law mo_many mo_asked mo_looksAll mo_changes mo_rowsRead mo_secondMany mo_seenMany mo_bestsDone mo_keptRow mo_keptMany mo_keptSecond mo_keptAsked mo_keptLooks mo_keptChanges mo_keptSeen mkeys_a mvalues_a mheights_a mheats_a msecondKeys_a msecondValues_a msecondHeights_a msecondHeats_a mkeptKeys_a mkeptValues_a mkeptHeights_a mkeptHeats_a mkeptKeys2_a mkeptValues2_a mkeptHeights2_a mkeptHeats2_a) (e2 : (r2, n_mo_foundAt, n_mo_foundLooks, n_mo_foundLane, n_mo_seedNow) = fn_X12_rounds mo_many mo_foundAt mo_foundLooks mo_foundLane mo_seedNow mkeys_a mheights_a a b d) : (fn_X11_rounds_N a b d) = r2 ∧ re_N (cl + 1) x_rowsRead x_rowOfImage x_bestsDone nw_asked nw_looksOfAsked nw_changes nwf_size nwfk_a nwfv_a nwfh_a nwft_a nws_size nwsk_a nwsv_a nwsh_a nwst_a nwe_size kp_asked kp_looksOfAsked kp_changes kpf_size kpfk_a kpfv_a kpfh_a kpft_a kps_size kpsk_a kpsv_a kpsh_a kpst_a kpe_size mo_law mo_many mo_asked mo_looksAll mo_changes mo_rowsRead mo_secondMany mo_seenMany mo_bestsDone mo_keptRow mo_keptMany mo_keptSecond mo_keptAsked mo_keptLooks mo_keptChanges mo_keptSeen mkeys_a mvalues_a mheights_a mheats_a msecondKeys_a msecondValues_a msecondHeights_a msecondHeats_a mkeptKeys_a mkeptValues_a mkeptHeights_a mkeptHeats_a mkeptKeys2_a mkeptValues2_a mkeptHeights2_a mkeptHeats2_a := by
  have hU9 := re_upN hR
  obtain ⟨⟨b1, ⟨q1, q2, q3, q4, q5⟩, hT, hU, b5⟩, hn, hs, hr, hi⟩ := hR
  obtain rfl := hT.1
  obtain rfl := hU.1
  subst hn
  unfold fn_X11_rounds_N
  unfold fn_X12_rounds at e2
  rcases ra_in (a := a) (lo := 1) (hi := 60) 1 60 rfl rfl with ⟨a1, a2, a3⟩ | ⟨a1, a2⟩
  · rw [if_neg (show ¬ a < 1 from fun q => by have q1 : a.toInt < 1 := wk_lt q; omega), if_neg (show ¬ 60 < a from fun q => by have q1 : 60 < a.toInt := wk_lt q; omega)]
    rw [if_neg a3] at e2
    by_cases cb : b < 0
    · rw [if_pos cb]
      rw [if_pos cb] at e2
      cases e2
      exact ⟨rfl, hU9⟩
    · rw [if_neg cb]
      rw [if_neg cb] at e2
      rcases ra_in (a := d) (lo := 0) (hi := 2) 0 2 rfl rfl with ⟨d1, d2, d3⟩ | ⟨d1, d2⟩
      · rw [if_neg (show ¬ d < 0 from fun q => by have q1 : d.toInt < 0 := wk_lt q; omega), if_pos (show d ≤ 2 from Int32.le_iff_toInt_le.mpr d2)]
        rw [if_neg d3, if_neg re_lk0] at e2
        cases e2
        exact ⟨rfl, hU9⟩
      · rw [if_pos d2] at e2
        by_cases cD : d < 0
        · rw [if_pos cD]
          cases e2
          exact ⟨rfl, hU9⟩
        · have kD : ¬ d.toInt < 0 := wk_nlt cD
          rw [if_neg cD, if_neg (show ¬ d ≤ 2 from fun q => by have q1 : d.toInt ≤ 2 := wk_le q; omega)]
          cases e2
          exact ⟨rfl, hU9⟩
  · rw [if_pos a2] at e2
    by_cases cD : a < 1
    · rw [if_pos cD]
      cases e2
      exact ⟨rfl, hU9⟩
    · have kD : ¬ a.toInt < 1 := wk_nlt cD
      rw [if_neg cD, if_pos (show 60 < a from Int32.lt_iff_toInt_lt.mpr (show 60 < a.toInt by omega))]
      cases e2
      exact ⟨rfl, hU9⟩
