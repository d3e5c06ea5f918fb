theorem ra_lkL {P : Int32 → Prop} {n : Int32} {f g : Nat → Int32} (h : ra_ag P n.toInt f g) (hn : n.toInt ≤ 8) : ∀ (fu : Nat) (s x : Int32), 0 ≤ x.toInt → lp_X8_linksOf_4 n f fu s x = lp_X12_linksOf_4 n g fu s x := by
  intro fu
  induction fu with
  | zero => intro s x hx; rw [lp_X8_linksOf_4, lp_X12_linksOf_4]
  | succ fu ih =>
    intro s x hx
    rw [lp_X8_linksOf_4, lp_X12_linksOf_4]
    by_cases c : n ≤ x
    · simp only [if_pos c]
    · simp only [if_neg c]
      have kx := wk_nle c
      rw [(ra_at h hx (by omega)).1]
      exact ih _ _ (by rw [ra_inc (by omega) hx]; omega)
theorem ra_htL {P : Int32 → Prop} {n : Int32} {f g : Nat → Int32} (h : ra_ag P n.toInt f g) (hn : n.toInt ≤ 8) : ∀ (fu : Nat) (s x : Int32), 0 ≤ x.toInt → lp_X8_allHeat_4 n f fu s x = lp_X12_sumOf_4 n g fu s x := by
  intro fu
  induction fu with
  | zero => intro s x hx; rw [lp_X8_allHeat_4, lp_X12_sumOf_4]
  | succ fu ih =>
    intro s x hx
    rw [lp_X8_allHeat_4, lp_X12_sumOf_4]
    by_cases c : n ≤ x
    · simp only [if_pos c]
    · simp only [if_neg c]
      have kx := wk_nle c
      rw [(ra_at h hx (by omega)).1]
      exact ih _ _ (by rw [ra_inc (by omega) hx]; omega)
theorem ra_vbL {n : Int32} {k v k' v' : Nat → Int32} (i1 : ra_ag ra_K n.toInt k k') (i2 : ra_ag ra_V n.toInt v v') (hn : n.toInt ≤ 8) : ∀ (fu : Nat) (s x : Int32), 0 ≤ x.toInt → lp_X8_valuesBetween_5 n k v 0 99 fu s x = lp_X12_sumOf_4 n v' fu s x := by
  intro fu
  induction fu with
  | zero => intro s x hx; rw [lp_X8_valuesBetween_5, lp_X12_sumOf_4]
  | succ fu ih =>
    intro s x hx
    rw [lp_X8_valuesBetween_5, lp_X12_sumOf_4]
    by_cases c : n ≤ x
    · simp only [if_pos c]
    · simp only [if_neg c]
      have kx := wk_nle c
      obtain ⟨a1, a2⟩ := ra_at i1 hx (by omega)
      have a3 : 0 ≤ (k x.toNatClampNeg).toInt ∧ (k x.toNatClampNeg).toInt ≤ 99 := a2
      rw [if_neg (show ¬ k x.toNatClampNeg < 0 from fun q => by have q1 : (k x.toNatClampNeg).toInt < 0 := wk_lt q; omega), if_neg (show ¬ 99 < k x.toNatClampNeg from fun q => by have q1 : 99 < (k x.toNatClampNeg).toInt := wk_lt q; omega), (ra_at i2 hx (by omega)).1]
      exact ih _ _ (by rw [ra_inc (by omega) hx]; omega)
theorem re_count_R {cl lc : Nat} {x_rowsRead : Int32} {x_rowOfImage : Int32} {x_bestsDone : Int32} {nw_asked : Int32} {nw_looksOfAsked : Int32} {nw_changes : Int32} {nwf_size : Int32} {nwfk_a : Nat → Int32} {nwfv_a : Nat → Int32} {nwfh_a : Nat → Int32} {nwft_a : Nat → Int32} {nws_size : Int32} {nwsk_a : Nat → Int32} {nwsv_a : Nat → Int32} {nwsh_a : Nat → Int32} {nwst_a : Nat → Int32} {nwe_size : Int32} {kp_asked : Int32} {kp_looksOfAsked : Int32} {kp_changes : Int32} {kpf_size : Int32} {kpfk_a : Nat → Int32} {kpfv_a : Nat → Int32} {kpfh_a : Nat → Int32} {kpft_a : Nat → Int32} {kps_size : Int32} {kpsk_a : Nat → Int32} {kpsv_a : Nat → Int32} {kpsh_a : Nat → Int32} {kpst_a : Nat → Int32} {kpe_size : Int32} {mo_law : Int32} {mo_many : Int32} {mo_asked : Int32} {mo_looksAll : Int32} {mo_changes : Int32} {mo_rowsRead : Int32} {mo_secondMany : Int32} {mo_seenMany : Int32} {mo_bestsDone : Int32} {mo_keptRow : Int32} {mo_keptMany : Int32} {mo_keptSecond : Int32} {mo_keptAsked : Int32} {mo_keptLooks : Int32} {mo_keptChanges : Int32} {mo_keptSeen : Int32} {mkeys_a : Nat → Int32} {mvalues_a : Nat → Int32} {mheights_a : Nat → Int32} {mheats_a : Nat → Int32} {msecondKeys_a : Nat → Int32} {msecondValues_a : Nat → Int32} {msecondHeights_a : Nat → Int32} {msecondHeats_a : Nat → Int32} {mkeptKeys_a : Nat → Int32} {mkeptValues_a : Nat → Int32} {mkeptHeights_a : Nat → Int32} {mkeptHeats_a : Nat → Int32} {mkeptKeys2_a : Nat → Int32} {mkeptValues2_a : Nat → Int32} {mkeptHeights2_a : Nat → Int32} {mkeptHeats2_a : Nat → Int32} {pn : Int32} {a : Int32}   (hR : re_R cl lc x_rowsRead x_rowOfImage x_bestsDone nw_asked nw_looksOfAsked nw_changes nwf_size nwfk_a nwfv_a nwfh_a nwft_a nws_size nwsk_a nwsv_a nwsh_a nwst_a nwe_size kp_asked kp_looksOfAsked kp_changes kpf_size kpfk_a kpfv_a kpfh_a kpft_a kps_size kpsk_a kpsv_a kpsh_a kpst_a kpe_size mo_law mo_many mo_asked mo_looksAll mo_changes mo_rowsRead mo_secondMany mo_seenMany mo_bestsDone mo_keptRow mo_keptMany mo_keptSecond mo_keptAsked mo_keptLooks mo_keptChanges mo_keptSeen mkeys_a mvalues_a mheights_a mheats_a msecondKeys_a msecondValues_a msecondHeights_a msecondHeats_a mkeptKeys_a mkeptValues_a mkeptHeights_a mkeptHeats_a mkeptKeys2_a mkeptValues2_a mkeptHeights2_a mkeptHeats2_a)  : (fn_X11_count x_rowsRead x_bestsDone pn nw_asked nw_looksOfAsked nw_changes nwf_size nwfk_a nwfv_a nwfh_a nwft_a nws_size nwe_size a) = (fn_X12_count pn mo_many mo_asked mo_looksAll mo_changes mo_rowsRead mo_secondMany mo_bestsDone mo_seenMany mvalues_a mheights_a mheats_a a) ∧ re_R (cl + 1) lc x_rowsRead x_rowOfImage x_bestsDone nw_asked nw_looksOfAsked nw_changes nwf_size nwfk_a nwfv_a nwfh_a nwft_a nws_size nwsk_a nwsv_a nwsh_a nwst_a nwe_size kp_asked kp_looksOfAsked kp_changes kpf_size kpfk_a kpfv_a kpfh_a kpft_a kps_size kpsk_a kpsv_a kpsh_a kpst_a kpe_size mo_law mo_many mo_asked mo_looksAll mo_changes mo_rowsRead mo_secondMany mo_seenMany mo_bestsDone mo_keptRow mo_keptMany mo_keptSecond mo_keptAsked mo_keptLooks mo_keptChanges mo_keptSeen mkeys_a mvalues_a mheights_a mheats_a msecondKeys_a msecondValues_a msecondHeights_a msecondHeats_a mkeptKeys_a mkeptValues_a mkeptHeights_a mkeptHeats_a mkeptKeys2_a mkeptValues2_a mkeptHeights2_a mkeptHeats2_a := by
  have hU9 := re_upR hR
  obtain ⟨⟨b1, ⟨q1, q2, q3, q4, q5⟩, hT, hU, b5⟩, hk, hn, hr⟩ := hR
  obtain rfl := hT.1
  obtain rfl := hU.1
  obtain ⟨-, hn8, i1, i2, i3, i4⟩ := id hT
  refine ⟨?_, hU9⟩
  obtain ⟨d1, d2, d3, d4, d5, d6⟩ := b1
  have g1 := ra_la i3 hn8.2
  have g2 : fn_X8_linksOf nwf_size nwfh_a = fn_X12_linksOf nwf_size mheights_a := by unfold fn_X8_linksOf fn_X12_linksOf; rw [ra_lkL i3 hn8.2 10 0 0 (by decide)]
  have g3 : fn_X8_valuesBetween nwf_size nwfk_a nwfv_a 0 99 = fn_X12_sumOf nwf_size mvalues_a := by unfold fn_X8_valuesBetween fn_X12_sumOf; rw [ra_vbL i1 i2 hn8.2 10 0 0 (by decide)]
  have g4 : fn_X8_allHeat nwf_size nwft_a = fn_X12_sumOf nwf_size mheats_a := by unfold fn_X8_allHeat fn_X12_sumOf; rw [ra_htL i4 hn8.2 10 0 0 (by decide)]
  unfold fn_X11_count fn_X12_count fn_X12_countOf
  rw [g1, g2, g3, g4, d1, d4, q1, q2, q3, q4]
theorem re_count_N {cl : Nat} {x_rowsRead : Int32} {x_rowOfImage : Int32} {x_bestsDone : Int32} {nw_asked : Int32} {nw_looksOfAsked : Int32} {nw_changes : Int32} {nwf_size : Int32} {nwfk_a : Nat → Int32} {nwfv_a : Nat → Int32} {nwfh_a : Nat → Int32} {nwft_a : Nat → Int32} {nws_size : Int32} {nwsk_a : Nat → Int32} {nwsv_a : Nat → Int32} {nwsh_a : Nat → Int32} {nwst_a : Nat → Int32} {nwe_size : Int32} {kp_asked : Int32} {kp_looksOfAsked : Int32} {kp_changes : Int32} {kpf_size : Int32} {kpfk_a : Nat → Int32} {kpfv_a : Nat → Int32} {kpfh_a : Nat → Int32} {kpft_a : Nat → Int32} {kps_size : Int32} {kpsk_a : Nat → Int32} {kpsv_a : Nat → Int32} {kpsh_a : Nat → Int32} {kpst_a : Nat → Int32} {kpe_size : Int32} {mo_law : Int32} {mo_many : Int32} {mo_asked : Int32} {mo_looksAll : Int32} {mo_changes : Int32} {mo_rowsRead : Int32} {mo_secondMany : Int32} {mo_seenMany : Int32} {mo_bestsDone : Int32} {mo_keptRow : Int32} {mo_keptMany : Int32} {mo_keptSecond : Int32} {mo_keptAsked : Int32} {mo_keptLooks : Int32} {mo_keptChanges : Int32} {mo_keptSeen : Int32} {mkeys_a : Nat → Int32} {mvalues_a : Nat → Int32} {mheights_a : Nat → Int32} {mheats_a : Nat → Int32} {msecondKeys_a : Nat → Int32} {msecondValues_a : Nat → Int32} {msecondHeights_a : Nat → Int32} {msecondHeats_a : Nat → Int32} {mkeptKeys_a : Nat → Int32} {mkeptValues_a : Nat → Int32} {mkeptHeights_a : Nat → Int32} {mkeptHeats_a : Nat → Int32} {mkeptKeys2_a : Nat → Int32} {mkeptValues2_a : Nat → Int32} {mkeptHeights2_a : Nat → Int32} {mkeptHeats2_a : Nat → Int32} {pn : Int32} {a : Int32}   (hR : re_N cl x_rowsRead x_rowOfImage x_bestsDone nw_asked nw_looksOfAsked nw_changes nwf_size nwfk_a nwfv_a nwfh_a nwft_a nws_size nwsk_a nwsv_a nwsh_a nwst_a nwe_size kp_asked kp_looksOfAsked kp_changes kpf_size kpfk_a kpfv_a kpfh_a kpft_a kps_size kpsk_a kpsv_a kpsh_a kpst_a kpe_size mo_law mo_many mo_asked mo_looksAll mo_changes mo_rowsRead mo_secondMany mo_seenMany mo_bestsDone mo_keptRow mo_keptMany mo_keptSecond mo_keptAsked mo_keptLooks mo_keptChanges mo_keptSeen mkeys_a mvalues_a mheights_a mheats_a msecondKeys_a msecondValues_a msecondHeights_a msecondHeats_a mkeptKeys_a mkeptValues_a mkeptHeights_a mkeptHeats_a mkeptKeys2_a mkeptValues2_a mkeptHeights2_a mkeptHeats2_a)  : (fn_X11_count x_rowsRead x_bestsDone pn nw_asked nw_looksOfAsked nw_changes nwf_size nwfk_a nwfv_a nwfh_a nwft_a nws_size nwe_size a) = (fn_X12_count pn mo_many mo_asked mo_looksAll mo_changes mo_rowsRead mo_secondMany mo_bestsDone mo_seenMany mvalues_a mheights_a mheats_a a) ∧ re_N (cl + 1) x_rowsRead x_rowOfImage x_bestsDone nw_asked nw_looksOfAsked nw_changes nwf_size nwfk_a nwfv_a nwfh_a nwft_a nws_size nwsk_a nwsv_a nwsh_a nwst_a nwe_size kp_asked kp_looksOfAsked kp_changes kpf_size kpfk_a kpfv_a kpfh_a kpft_a kps_size kpsk_a kpsv_a kpsh_a kpst_a kpe_size mo_law mo_many mo_asked mo_looksAll mo_changes mo_rowsRead mo_secondMany mo_seenMany mo_bestsDone mo_keptRow mo_keptMany mo_keptSecond mo_keptAsked mo_keptLooks mo_keptChanges mo_keptSeen mkeys_a mvalues_a mheights_a mheats_a msecondKeys_a msecondValues_a msecondHeights_a msecondHeats_a mkeptKeys_a mkeptValues_a mkeptHeights_a mkeptHeats_a mkeptKeys2_a mkeptValues2_a mkeptHeights2_a mkeptHeats2_a := by
  have hU9 := re_upN hR
  obtain ⟨⟨b1, ⟨q1, q2, q3, q4, q5⟩, hT, hU, b5⟩, hn, hs, hr, hi⟩ := hR
  obtain rfl := hT.1
  obtain rfl := hU.1
  obtain ⟨-, hn8, i1, i2, i3, i4⟩ := id hT
  refine ⟨?_, hU9⟩
  obtain ⟨d1, d2, d3, d4, d5, d6⟩ := b1
  have g1 := ra_la i3 hn8.2
  have g2 : fn_X8_linksOf nwf_size nwfh_a = fn_X12_linksOf nwf_size mheights_a := by unfold fn_X8_linksOf fn_X12_linksOf; rw [ra_lkL i3 hn8.2 10 0 0 (by decide)]
  have g3 : fn_X8_valuesBetween nwf_size nwfk_a nwfv_a 0 99 = fn_X12_sumOf nwf_size mvalues_a := by unfold fn_X8_valuesBetween fn_X12_sumOf; rw [ra_vbL i1 i2 hn8.2 10 0 0 (by decide)]
  have g4 : fn_X8_allHeat nwf_size nwft_a = fn_X12_sumOf nwf_size mheats_a := by unfold fn_X8_allHeat fn_X12_sumOf; rw [ra_htL i4 hn8.2 10 0 0 (by decide)]
  unfold fn_X11_count fn_X12_count fn_X12_countOf
  rw [g1, g2, g3, g4, d1, d4, q1, q2, q3, q4]
