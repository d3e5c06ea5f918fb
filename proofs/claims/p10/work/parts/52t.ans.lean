theorem ra_val {n F S L : Int32} {v v' : Nat → Int32} (i2 : ra_ag ra_V n.toInt v v') (hF : F = -1 ∨ (0 ≤ F.toInt ∧ F.toInt < n.toInt)) : fn_X11_valueOf n v F = if F = -1 then -1 else v' F.toNatClampNeg := by
  unfold fn_X11_valueOf fn_X11_namesNoKey
  rcases hF with rfl | ⟨f1, f2⟩
  · rw [if_pos (show (-1 : Int32) < 0 by decide), if_neg (show ¬ (1 : Int32) = 0 by decide), if_pos rfl]
  · rw [if_neg (show ¬ F < 0 from fun u => by have u1 : F.toInt < 0 := wk_lt u; omega), if_pos (Int32.lt_iff_toInt_lt.mpr f2), if_pos rfl, if_neg (show ¬ F = -1 from fun u => by have u1 : F.toInt = -1 := wk_eq u; omega)]
    exact (ra_at i2 f1 f2).1
theorem re_find_R {cl lc : Nat} {x_rowsRead : Int32} {x_rowOfImage : Int32} {x_bestsDone : Int32} {nw_asked : Int32} {nw_looksOfAsked : Int32} {nw_changes : Int32} {nwf_size : Int32} {nwfk_a : Nat → Int32} {nwfv_a : Nat → Int32} {nwfh_a : Nat → Int32} {nwft_a : Nat → Int32} {nws_size : Int32} {nwsk_a : Nat → Int32} {nwsv_a : Nat → Int32} {nwsh_a : Nat → Int32} {nwst_a : Nat → Int32} {nwe_size : Int32} {kp_asked : Int32} {kp_looksOfAsked : Int32} {kp_changes : Int32} {kpf_size : Int32} {kpfk_a : Nat → Int32} {kpfv_a : Nat → Int32} {kpfh_a : Nat → Int32} {kpft_a : Nat → Int32} {kps_size : Int32} {kpsk_a : Nat → Int32} {kpsv_a : Nat → Int32} {kpsh_a : Nat → Int32} {kpst_a : Nat → Int32} {kpe_size : Int32} {mo_law : Int32} {mo_many : Int32} {mo_asked : Int32} {mo_looksAll : Int32} {mo_changes : Int32} {mo_rowsRead : Int32} {mo_secondMany : Int32} {mo_seenMany : Int32} {mo_bestsDone : Int32} {mo_keptRow : Int32} {mo_keptMany : Int32} {mo_keptSecond : Int32} {mo_keptAsked : Int32} {mo_keptLooks : Int32} {mo_keptChanges : Int32} {mo_keptSeen : Int32} {mkeys_a : Nat → Int32} {mvalues_a : Nat → Int32} {mheights_a : Nat → Int32} {mheats_a : Nat → Int32} {msecondKeys_a : Nat → Int32} {msecondValues_a : Nat → Int32} {msecondHeights_a : Nat → Int32} {msecondHeats_a : Nat → Int32} {mkeptKeys_a : Nat → Int32} {mkeptValues_a : Nat → Int32} {mkeptHeights_a : Nat → Int32} {mkeptHeats_a : Nat → Int32} {mkeptKeys2_a : Nat → Int32} {mkeptValues2_a : Nat → Int32} {mkeptHeights2_a : Nat → Int32} {mkeptHeats2_a : Nat → Int32} {wk_number : Int32} {wk_lane : Int32} {wk_looks : Int32} {a : Int32} {b : Int32} {mo_foundAt : Int32} {mo_foundLooks : Int32} {mo_foundLane : Int32} {n_wk_number : Int32} {n_wk_lane : Int32} {n_wk_looks : Int32} {n_mo_foundAt : Int32} {n_mo_foundLooks : Int32} {n_mo_foundLane : Int32} {r r2 : Int32} (hR : re_R cl lc x_rowsRead x_rowOfImage x_bestsDone nw_asked nw_looksOfAsked nw_changes nwf_size nwfk_a nwfv_a nwfh_a nwft_a nws_size nwsk_a nwsv_a nwsh_a nwst_a nwe_size kp_asked kp_looksOfAsked kp_changes kpf_size kpfk_a kpfv_a kpfh_a kpft_a kps_size kpsk_a kpsv_a kpsh_a kpst_a kpe_size mo_law mo_many mo_asked mo_looksAll mo_changes mo_rowsRead mo_secondMany mo_seenMany mo_bestsDone mo_keptRow mo_keptMany mo_keptSecond mo_keptAsked mo_keptLooks mo_keptChanges mo_keptSeen mkeys_a mvalues_a mheights_a mheats_a msecondKeys_a msecondValues_a msecondHeights_a msecondHeats_a mkeptKeys_a mkeptValues_a mkeptHeights_a mkeptHeats_a mkeptKeys2_a mkeptValues2_a mkeptHeights2_a mkeptHeats2_a) (e1 : (r, n_wk_number, n_wk_lane, n_wk_looks) = fn_X11_find_R nwf_size nwfk_a nwfv_a nwfh_a wk_number wk_lane wk_looks a b) (e2 : (r2, n_mo_foundAt, n_mo_foundLooks, n_mo_foundLane) = fn_X12_find mo_many mo_foundAt mo_foundLooks mo_foundLane mkeys_a mvalues_a mheights_a a b) : r = r2 ∧ re_R (cl + 1) lc x_rowsRead x_rowOfImage x_bestsDone nw_asked nw_looksOfAsked nw_changes nwf_size nwfk_a nwfv_a nwfh_a nwft_a nws_size nwsk_a nwsv_a nwsh_a nwst_a nwe_size kp_asked kp_looksOfAsked kp_changes kpf_size kpfk_a kpfv_a kpfh_a kpft_a kps_size kpsk_a kpsv_a kpsh_a kpst_a kpe_size mo_law mo_many mo_asked mo_looksAll mo_changes mo_rowsRead mo_secondMany mo_seenMany mo_bestsDone mo_keptRow mo_keptMany mo_keptSecond mo_keptAsked mo_keptLooks mo_keptChanges mo_keptSeen mkeys_a mvalues_a mheights_a mheats_a msecondKeys_a msecondValues_a msecondHeights_a msecondHeats_a mkeptKeys_a mkeptValues_a mkeptHeights_a mkeptHeats_a mkeptKeys2_a mkeptValues2_a mkeptHeights2_a mkeptHeats2_a := by
  have hU9 := re_upR hR
  obtain ⟨⟨b1, ⟨q1, q2, q3, q4, q5⟩, hT, hU, b5⟩, hk, hn, hr⟩ := hR
  obtain rfl := hT.1
  obtain rfl := hU.1
  obtain ⟨-, hn8, i1, i2, i3, i4⟩ := id hT
  unfold fn_X11_find_R at e1
  unfold fn_X12_find at e2
  rcases ra_isKey a with ⟨ka, kb, kc⟩ | ⟨ka, kb⟩
  · rw [if_pos ka] at e1
    rw [if_neg kb] at e2
    rcases ra_in (a := b) (lo := 0) (hi := 3) 0 3 rfl rfl with ⟨b1', b2, b3⟩ | ⟨b1', b2⟩
    · rw [if_neg (fun q => by have q1 : b.toInt < 0 := wk_lt q; omega), if_pos (show b ≤ 3 from Int32.le_iff_toInt_le.mpr b2)] at e1
      rw [if_neg b3, if_pos (ra_lacks (n := nwf_size) (by omega))] at e2
      obtain ⟨F, L, S, g1, g2, g3⟩ := ra_go hn8 i1 i3 wk_number wk_lane wk_looks mo_foundAt mo_foundLooks mo_foundLane a
      rw [g1] at e1
      rw [g2] at e2
      unfold fn_X12_tellFound at e2
      simp only [ra_pm2] at e1 e2
      rw [ra_val (S := S) (L := L) i2 g3] at e1
      by_cases c0 : b = 0
      · simp only [if_pos c0] at e1 e2
        cases e1
        cases e2
        exact ⟨rfl, hU9⟩
      · simp only [if_neg c0] at e1 e2
        by_cases c1 : b = 1
        · simp only [if_pos c1] at e1 e2
          cases e1
          cases e2
          exact ⟨rfl, hU9⟩
        · simp only [if_neg c1] at e1 e2
          by_cases c2 : b = 2
          · simp only [if_pos c2] at e1 e2
            cases e1
            cases e2
            exact ⟨rfl, hU9⟩
          · simp only [if_neg c2] at e1 e2
            cases e1
            cases e2
            exact ⟨rfl, hU9⟩
    · rw [if_pos b2] at e2
      by_cases cD : b < 0
      · rw [if_pos cD] at e1
        cases e1
        cases e2
        exact ⟨rfl, hU9⟩
      · have kD : ¬ b.toInt < 0 := wk_nlt cD
        rw [if_neg cD, if_neg (fun q => by have q1 : b.toInt ≤ 3 := wk_le q; omega)] at e1
        cases e1
        cases e2
        exact ⟨rfl, hU9⟩
  · rw [if_neg ka] at e1
    rw [if_pos kb] at e2
    cases e1
    cases e2
    exact ⟨rfl, hU9⟩
theorem re_find_N {cl : Nat} {x_rowsRead : Int32} {x_rowOfImage : Int32} {x_bestsDone : Int32} {nw_asked : Int32} {nw_looksOfAsked : Int32} {nw_changes : Int32} {nwf_size : Int32} {nwfk_a : Nat → Int32} {nwfv_a : Nat → Int32} {nwfh_a : Nat → Int32} {nwft_a : Nat → Int32} {nws_size : Int32} {nwsk_a : Nat → Int32} {nwsv_a : Nat → Int32} {nwsh_a : Nat → Int32} {nwst_a : Nat → Int32} {nwe_size : Int32} {kp_asked : Int32} {kp_looksOfAsked : Int32} {kp_changes : Int32} {kpf_size : Int32} {kpfk_a : Nat → Int32} {kpfv_a : Nat → Int32} {kpfh_a : Nat → Int32} {kpft_a : Nat → Int32} {kps_size : Int32} {kpsk_a : Nat → Int32} {kpsv_a : Nat → Int32} {kpsh_a : Nat → Int32} {kpst_a : Nat → Int32} {kpe_size : Int32} {mo_law : Int32} {mo_many : Int32} {mo_asked : Int32} {mo_looksAll : Int32} {mo_changes : Int32} {mo_rowsRead : Int32} {mo_secondMany : Int32} {mo_seenMany : Int32} {mo_bestsDone : Int32} {mo_keptRow : Int32} {mo_keptMany : Int32} {mo_keptSecond : Int32} {mo_keptAsked : Int32} {mo_keptLooks : Int32} {mo_keptChanges : Int32} {mo_keptSeen : Int32} {mkeys_a : Nat → Int32} {mvalues_a : Nat → Int32} {mheights_a : Nat → Int32} {mheats_a : Nat → Int32} {msecondKeys_a : Nat → Int32} {msecondValues_a : Nat → Int32} {msecondHeights_a : Nat → Int32} {msecondHeats_a : Nat → Int32} {mkeptKeys_a : Nat → Int32} {mkeptValues_a : Nat → Int32} {mkeptHeights_a : Nat → Int32} {mkeptHeats_a : Nat → Int32} {mkeptKeys2_a : Nat → Int32} {mkeptValues2_a : Nat → Int32} {mkeptHeights2_a : Nat → Int32} {mkeptHeats2_a : Nat → Int32} {a : Int32} {b : Int32} {mo_foundAt : Int32} {mo_foundLooks : Int32} {mo_foundLane : Int32} {n_mo_foundAt : Int32} {n_mo_foundLooks : Int32} {n_mo_foundLane : Int32} {r2 : Int32} (hR : re_N cl x_rowsRead x_rowOfImage x_bestsDone nw_asked nw_looksOfAsked nw_changes nwf_size nwfk_a nwfv_a nwfh_a nwft_a nws_size nwsk_a nwsv_a nwsh_a nwst_a nwe_size kp_asked kp_looksOfAsked kp_changes kpf_size kpfk_a kpfv_a kpfh_a kpft_a kps_size kpsk_a kpsv_a kpsh_a kpst_a kpe_size mo_law mo_many mo_asked mo_looksAll mo_changes mo_rowsRead mo_secondMany mo_seenMany mo_bestsDone mo_keptRow mo_keptMany mo_keptSecond mo_keptAsked mo_keptLooks mo_keptChanges mo_keptSeen mkeys_a mvalues_a mheights_a mheats_a msecondKeys_a msecondValues_a msecondHeights_a msecondHeats_a mkeptKeys_a mkeptValues_a mkeptHeights_a mkeptHeats_a mkeptKeys2_a mkeptValues2_a mkeptHeights2_a mkeptHeats2_a) (e2 : (r2, n_mo_foundAt, n_mo_foundLooks, n_mo_foundLane) = fn_X12_find mo_many mo_foundAt mo_foundLooks mo_foundLane mkeys_a mvalues_a mheights_a a b) : (fn_X11_find_N a b) = r2 ∧ re_N (cl + 1) x_rowsRead x_rowOfImage x_bestsDone nw_asked nw_looksOfAsked nw_changes nwf_size nwfk_a nwfv_a nwfh_a nwft_a nws_size nwsk_a nwsv_a nwsh_a nwst_a nwe_size kp_asked kp_looksOfAsked kp_changes kpf_size kpfk_a kpfv_a kpfh_a kpft_a kps_size kpsk_a kpsv_a kpsh_a kpst_a kpe_size mo_law mo_many mo_asked mo_looksAll mo_changes mo_rowsRead mo_secondMany mo_seenMany mo_bestsDone mo_keptRow mo_keptMany mo_keptSecond mo_keptAsked mo_keptLooks mo_keptChanges mo_keptSeen mkeys_a mvalues_a mheights_a mheats_a msecondKeys_a msecondValues_a msecondHeights_a msecondHeats_a mkeptKeys_a mkeptValues_a mkeptHeights_a mkeptHeats_a mkeptKeys2_a mkeptValues2_a mkeptHeights2_a mkeptHeats2_a := by
  have hU9 := re_upN hR
  obtain ⟨⟨b1, ⟨q1, q2, q3, q4, q5⟩, hT, hU, b5⟩, hn, hs, hr, hi⟩ := hR
  obtain rfl := hT.1
  obtain rfl := hU.1
  subst hn
  unfold fn_X12_find at e2
  unfold fn_X11_find_N
  rcases ra_isKey a with ⟨ka, kb, kc⟩ | ⟨ka, kb⟩
  · rw [if_pos ka]
    rw [if_neg kb] at e2
    rcases ra_in (a := b) (lo := 0) (hi := 3) 0 3 rfl rfl with ⟨b1', b2, b3⟩ | ⟨b1', b2⟩
    · rw [if_neg (show ¬ b < 0 from fun q => by have q1 : b.toInt < 0 := wk_lt q; omega), if_pos (show b ≤ 3 from Int32.le_iff_toInt_le.mpr b2)]
      rw [if_neg b3, if_neg re_lk0] at e2
      cases e2
      exact ⟨rfl, hU9⟩
    · rw [if_pos b2] at e2
      by_cases cD : b < 0
      · rw [if_pos cD]
        cases e2
        exact ⟨rfl, hU9⟩
      · have kD : ¬ b.toInt < 0 := wk_nlt cD
        rw [if_neg cD, if_neg (show ¬ b ≤ 3 from fun q => by have q1 : b.toInt ≤ 3 := wk_le q; omega)]
        cases e2
        exact ⟨rfl, hU9⟩
  · rw [if_neg ka]
    rw [if_pos kb] at e2
    cases e2
    exact ⟨rfl, hU9⟩
