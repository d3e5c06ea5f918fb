theorem re_finger_R {cl lc : Nat} {x_rowsRead : Int32} {x_rowOfImage : Int32} {x_bestsDone : Int32} {nw_asked : Int32} {nw_looksOfAsked : Int32} {nw_changes : Int32} {nwf_size : Int32} {nwfk_a : Nat → Int32} {nwfv_a : Nat → Int32} {nwfh_a : Nat → Int32} {nwft_a : Nat → Int32} {nws_size : Int32} {nwsk_a : Nat → Int32} {nwsv_a : Nat → Int32} {nwsh_a : Nat → Int32} {nwst_a : Nat → Int32} {nwe_size : Int32} {kp_asked : Int32} {kp_looksOfAsked : Int32} {kp_changes : Int32} {kpf_size : Int32} {kpfk_a : Nat → Int32} {kpfv_a : Nat → Int32} {kpfh_a : Nat → Int32} {kpft_a : Nat → Int32} {kps_size : Int32} {kpsk_a : Nat → Int32} {kpsv_a : Nat → Int32} {kpsh_a : Nat → Int32} {kpst_a : Nat → Int32} {kpe_size : Int32} {mo_law : Int32} {mo_many : Int32} {mo_asked : Int32} {mo_looksAll : Int32} {mo_changes : Int32} {mo_rowsRead : Int32} {mo_secondMany : Int32} {mo_seenMany : Int32} {mo_bestsDone : Int32} {mo_keptRow : Int32} {mo_keptMany : Int32} {mo_keptSecond : Int32} {mo_keptAsked : Int32} {mo_keptLooks : Int32} {mo_keptChanges : Int32} {mo_keptSeen : Int32} {mkeys_a : Nat → Int32} {mvalues_a : Nat → Int32} {mheights_a : Nat → Int32} {mheats_a : Nat → Int32} {msecondKeys_a : Nat → Int32} {msecondValues_a : Nat → Int32} {msecondHeights_a : Nat → Int32} {msecondHeats_a : Nat → Int32} {mkeptKeys_a : Nat → Int32} {mkeptValues_a : Nat → Int32} {mkeptHeights_a : Nat → Int32} {mkeptHeats_a : Nat → Int32} {mkeptKeys2_a : Nat → Int32} {mkeptValues2_a : Nat → Int32} {mkeptHeights2_a : Nat → Int32} {mkeptHeats2_a : Nat → Int32} {wk_number : Int32} {wk_lane : Int32} {wk_looks : Int32} {a : Int32} {b : Int32} {d : Int32} {mo_foundAt : Int32} {mo_foundLooks : Int32} {mo_foundLane : Int32} {n_wk_number : Int32} {n_wk_lane : Int32} {n_wk_looks : Int32} {n_mo_foundAt : Int32} {n_mo_foundLooks : Int32} {n_mo_foundLane : Int32} {r r2 : Int32} (hR : re_R cl lc x_rowsRead x_rowOfImage x_bestsDone nw_asked nw_looksOfAsked nw_changes nwf_size nwfk_a nwfv_a nwfh_a nwft_a nws_size nwsk_a nwsv_a nwsh_a nwst_a nwe_size kp_asked kp_looksOfAsked kp_changes kpf_size kpfk_a kpfv_a kpfh_a kpft_a kps_size kpsk_a kpsv_a kpsh_a kpst_a kpe_size mo_law mo_many mo_asked mo_looksAll mo_changes mo_rowsRead mo_secondMany mo_seenMany mo_bestsDone mo_keptRow mo_keptMany mo_keptSecond mo_keptAsked mo_keptLooks mo_keptChanges mo_keptSeen mkeys_a mvalues_a mheights_a mheats_a msecondKeys_a msecondValues_a msecondHeights_a msecondHeats_a mkeptKeys_a mkeptValues_a mkeptHeights_a mkeptHeats_a mkeptKeys2_a mkeptValues2_a mkeptHeights2_a mkeptHeats2_a) (e1 : (r, n_wk_number, n_wk_lane, n_wk_looks) = fn_X11_finger nwf_size nwfk_a nwfh_a wk_number wk_lane wk_looks a b d) (e2 : (r2, n_mo_foundAt, n_mo_foundLooks, n_mo_foundLane) = fn_X12_finger mo_many mo_foundAt mo_foundLooks mo_foundLane mkeys_a mvalues_a mheights_a a b d) : r = r2 ∧ re_R (cl + 1) lc x_rowsRead x_rowOfImage x_bestsDone nw_asked nw_looksOfAsked nw_changes nwf_size nwfk_a nwfv_a nwfh_a nwft_a nws_size nwsk_a nwsv_a nwsh_a nwst_a nwe_size kp_asked kp_looksOfAsked kp_changes kpf_size kpfk_a kpfv_a kpfh_a kpft_a kps_size kpsk_a kpsv_a kpsh_a kpst_a kpe_size mo_law mo_many mo_asked mo_looksAll mo_changes mo_rowsRead mo_secondMany mo_seenMany mo_bestsDone mo_keptRow mo_keptMany mo_keptSecond mo_keptAsked mo_keptLooks mo_keptChanges mo_keptSeen mkeys_a mvalues_a mheights_a mheats_a msecondKeys_a msecondValues_a msecondHeights_a msecondHeats_a mkeptKeys_a mkeptValues_a mkeptHeights_a mkeptHeats_a mkeptKeys2_a mkeptValues2_a mkeptHeights2_a mkeptHeats2_a := by
  have hU9 := re_upR hR
  obtain ⟨⟨b1, ⟨q1, q2, q3, q4, q5⟩, hT, hU, b5⟩, hk, hn, hr⟩ := hR
  obtain rfl := hT.1
  obtain rfl := hU.1
  obtain ⟨-, hn8, i1, i2, i3, i4⟩ := id hT
  unfold fn_X11_finger at e1
  unfold fn_X12_finger at e2
  rcases ra_isNum (n := nwf_size) (a := a) hn8 with ⟨n1, n2, n3⟩ | ⟨n1, n2, n3⟩
  · rw [if_pos n1] at e1
    rw [if_neg n2] at e2
    rw [(ra_at i1 n3.1 n3.2).1] at e1
    rcases ra_in (a := b) (lo := (mkeys_a a.toNatClampNeg).toInt64) (hi := 99) (mkeys_a a.toNatClampNeg).toInt 99 (wk_64 _) rfl with ⟨u1, u2, u3⟩ | ⟨u1, u2⟩
    · rw [if_neg (fun q => by have q1 := wk_lt q; omega), if_neg (fun q => by have q1 : 99 < b.toInt := wk_lt q; omega)] at e1
      rw [if_neg u3] at e2
      rcases ra_in (a := d) (lo := 0) (hi := 1) 0 1 rfl rfl with ⟨d1, d2, d3⟩ | ⟨d1, d2⟩
      · rw [if_neg (fun q => by have q1 : d.toInt < 0 := wk_lt q; omega), if_pos (show d ≤ 1 from Int32.le_iff_toInt_le.mpr d2)] at e1
        rw [if_neg d3] at e2
        by_cases cb : b = mkeys_a a.toNatClampNeg
        · have g1 : fn_X10_go wk_number wk_lane wk_looks nwf_size nwfk_a nwfh_a a b = (a, -1, 0) := by
            unfold fn_X10_go
            rw [if_neg (show ¬ a < 0 from fun q => by have q1 : a.toInt < 0 := wk_lt q; omega), if_neg (show ¬ nwf_size ≤ a from fun q => by have q1 := wk_le q; omega), if_pos ((ra_at i1 n3.1 n3.2).1.trans cb.symm)]
          rw [g1] at e1
          rw [if_pos cb] at e2
          simp only [ra_pm2] at e1
          by_cases c0 : d = 0
          · rw [if_pos c0] at e1 e2
            cases e1
            cases e2
            exact ⟨rfl, hU9⟩
          · rw [if_neg c0] at e1 e2
            cases e1
            cases e2
            exact ⟨rfl, hU9⟩
        · obtain ⟨F, L, S, g1, g2⟩ := ra_gof (q := b) hn8 n3 i1 i3 wk_number wk_lane wk_looks mo_foundAt mo_foundLooks mo_foundLane (fun q => cb q.symm)
          rw [g1] at e1
          rw [if_neg cb, g2] at e2
          unfold fn_X12_tellFound at e2
          simp only [ra_pm2] at e1 e2
          by_cases c0 : d = 0
          · simp only [if_pos c0] at e1 e2
            cases e1
            cases e2
            exact ⟨rfl, hU9⟩
          · have k0 : ¬ d.toInt = 0 := wk_neq c0
            have c1 : d = 1 := Int32.toInt_inj.mp (show d.toInt = 1 by omega)
            simp only [if_neg c0, if_pos c1] at e1 e2
            cases e1
            cases e2
            exact ⟨rfl, hU9⟩
      · rw [if_pos d2] at e2
        by_cases cD : d < 0
        · rw [if_pos cD] at e1
          cases e1
          cases e2
          exact ⟨rfl, hU9⟩
        · have kD : ¬ d.toInt < 0 := wk_nlt cD
          rw [if_neg cD, if_neg (fun q => by have q1 : d.toInt ≤ 1 := wk_le q; omega)] at e1
          cases e1
          cases e2
          exact ⟨rfl, hU9⟩
    · rw [if_pos u2] at e2
      by_cases cD : b < mkeys_a a.toNatClampNeg
      · rw [if_pos cD] at e1
        cases e1
        cases e2
        exact ⟨rfl, hU9⟩
      · have kD := wk_nlt cD
        rw [if_neg cD, if_pos (show (99 : Int32) < b from Int32.lt_iff_toInt_lt.mpr (show 99 < b.toInt by omega))] at e1
        cases e1
        cases e2
        exact ⟨rfl, hU9⟩
  · rw [if_neg n1] at e1
    rw [if_pos n2] at e2
    cases e1
    cases e2
    exact ⟨rfl, hU9⟩
theorem re_finger_N {cl : Nat} {x_rowsRead : Int32} {x_rowOfImage : Int32} {x_bestsDone : Int32} {nw_asked : Int32} {nw_looksOfAsked : Int32} {nw_changes : Int32} {nwf_size : Int32} {nwfk_a : Nat → Int32} {nwfv_a : Nat → Int32} {nwfh_a : Nat → Int32} {nwft_a : Nat → Int32} {nws_size : Int32} {nwsk_a : Nat → Int32} {nwsv_a : Nat → Int32} {nwsh_a : Nat → Int32} {nwst_a : Nat → Int32} {nwe_size : Int32} {kp_asked : Int32} {kp_looksOfAsked : Int32} {kp_changes : Int32} {kpf_size : Int32} {kpfk_a : Nat → Int32} {kpfv_a : Nat → Int32} {kpfh_a : Nat → Int32} {kpft_a : Nat → Int32} {kps_size : Int32} {kpsk_a : Nat → Int32} {kpsv_a : Nat → Int32} {kpsh_a : Nat → Int32} {kpst_a : Nat → Int32} {kpe_size : Int32} {mo_law : Int32} {mo_many : Int32} {mo_asked : Int32} {mo_looksAll : Int32} {mo_changes : Int32} {mo_rowsRead : Int32} {mo_secondMany : Int32} {mo_seenMany : Int32} {mo_bestsDone : Int32} {mo_keptRow : Int32} {mo_keptMany : Int32} {mo_keptSecond : Int32} {mo_keptAsked : Int32} {mo_keptLooks : Int32} {mo_keptChanges : Int32} {mo_keptSeen : Int32} {mkeys_a : Nat → Int32} {mvalues_a : Nat → Int32} {mheights_a : Nat → Int32} {mheats_a : Nat → Int32} {msecondKeys_a : Nat → Int32} {msecondValues_a : Nat → Int32} {msecondHeights_a : Nat → Int32} {msecondHeats_a : Nat → Int32} {mkeptKeys_a : Nat → Int32} {mkeptValues_a : Nat → Int32} {mkeptHeights_a : Nat → Int32} {mkeptHeats_a : Nat → Int32} {mkeptKeys2_a : Nat → Int32} {mkeptValues2_a : Nat → Int32} {mkeptHeights2_a : Nat → Int32} {mkeptHeats2_a : Nat → Int32} {wk_number : Int32} {wk_lane : Int32} {wk_looks : Int32} {a : Int32} {b : Int32} {d : Int32} {mo_foundAt : Int32} {mo_foundLooks : Int32} {mo_foundLane : Int32} {n_wk_number : Int32} {n_wk_lane : Int32} {n_wk_looks : Int32} {n_mo_foundAt : Int32} {n_mo_foundLooks : Int32} {n_mo_foundLane : Int32} {r r2 : Int32} (hR : re_N cl x_rowsRead x_rowOfImage x_bestsDone nw_asked nw_looksOfAsked nw_changes nwf_size nwfk_a nwfv_a nwfh_a nwft_a nws_size nwsk_a nwsv_a nwsh_a nwst_a nwe_size kp_asked kp_looksOfAsked kp_changes kpf_size kpfk_a kpfv_a kpfh_a kpft_a kps_size kpsk_a kpsv_a kpsh_a kpst_a kpe_size mo_law mo_many mo_asked mo_looksAll mo_changes mo_rowsRead mo_secondMany mo_seenMany mo_bestsDone mo_keptRow mo_keptMany mo_keptSecond mo_keptAsked mo_keptLooks mo_keptChanges mo_keptSeen mkeys_a mvalues_a mheights_a mheats_a msecondKeys_a msecondValues_a msecondHeights_a msecondHeats_a mkeptKeys_a mkeptValues_a mkeptHeights_a mkeptHeats_a mkeptKeys2_a mkeptValues2_a mkeptHeights2_a mkeptHeats2_a) (e1 : (r, n_wk_number, n_wk_lane, n_wk_looks) = fn_X11_finger nwf_size nwfk_a nwfh_a wk_number wk_lane wk_looks a b d) (e2 : (r2, n_mo_foundAt, n_mo_foundLooks, n_mo_foundLane) = fn_X12_finger mo_many mo_foundAt mo_foundLooks mo_foundLane mkeys_a mvalues_a mheights_a a b d) : r = r2 ∧ re_N (cl + 1) x_rowsRead x_rowOfImage x_bestsDone nw_asked nw_looksOfAsked nw_changes nwf_size nwfk_a nwfv_a nwfh_a nwft_a nws_size nwsk_a nwsv_a nwsh_a nwst_a nwe_size kp_asked kp_looksOfAsked kp_changes kpf_size kpfk_a kpfv_a kpfh_a kpft_a kps_size kpsk_a kpsv_a kpsh_a kpst_a kpe_size mo_law mo_many mo_asked mo_looksAll mo_changes mo_rowsRead mo_secondMany mo_seenMany mo_bestsDone mo_keptRow mo_keptMany mo_keptSecond mo_keptAsked mo_keptLooks mo_keptChanges mo_keptSeen mkeys_a mvalues_a mheights_a mheats_a msecondKeys_a msecondValues_a msecondHeights_a msecondHeats_a mkeptKeys_a mkeptValues_a mkeptHeights_a mkeptHeats_a mkeptKeys2_a mkeptValues2_a mkeptHeights2_a mkeptHeats2_a := by
  have hU9 := re_upN hR
  obtain ⟨⟨b1, ⟨q1, q2, q3, q4, q5⟩, hT, hU, b5⟩, hn, hs, hr, hi⟩ := hR
  obtain rfl := hT.1
  obtain rfl := hU.1
  subst hn
  unfold fn_X11_finger at e1
  unfold fn_X12_finger at e2
  have z : (0 : Int32).toInt = 0 := rfl
  rcases ra_isNum (n := 0) (a := a) ⟨by decide, by decide⟩ with ⟨n1, n2, n3⟩ | ⟨n1, n2, n3⟩
  · exfalso; omega
  · rw [if_neg n1] at e1
    rw [if_pos n2] at e2
    cases e1
    cases e2
    exact ⟨rfl, hU9⟩
