theorem ra_sumL {n a b : Int32} {k v k' v' : Nat → Int32} (hn : n.toInt ≤ 8) (i1 : ra_ag ra_K n.toInt k k') (i2 : ra_ag ra_V n.toInt v v') : ∀ (fu : Nat) (s x : Int32), 0 ≤ x.toInt → lp_X8_valuesBetween_5 n k v a b fu s x = lp_X12_sum_37 n k' v' a b fu s x := by
  intro fu
  induction fu with
  | zero => intro s x hx; rw [lp_X8_valuesBetween_5, lp_X12_sum_37]
  | succ fu ih =>
    intro s x hx
    rw [lp_X8_valuesBetween_5, lp_X12_sum_37]
    by_cases c : n ≤ x
    · simp only [if_pos c]
    · simp only [if_neg c]
      have kx := wk_nle c
      have h0 : 0 ≤ (x + 1).toInt := by rw [ra_inc (by omega) hx]; omega
      rw [(ra_at i1 hx (by omega)).1, (ra_at i2 hx (by omega)).1]
      have h9 := ra_in (a := k' x.toNatClampNeg) (lo := a.toInt64) (hi := b.toInt64) a.toInt b.toInt (wk_64 a) (wk_64 b)
      by_cases d : k' x.toNatClampNeg < a
      · have kd := wk_lt d
        rw [if_pos d]
        rcases h9 with ⟨u1, u2, u3⟩ | ⟨u1, u2⟩
        · exfalso; omega
        · rw [if_pos u2]
          exact ih _ _ h0
      · have kd := wk_nlt d
        rw [if_neg d]
        by_cases e : b < k' x.toNatClampNeg
        · have ke := wk_lt e
          rw [if_pos e]
          rcases h9 with ⟨u1, u2, u3⟩ | ⟨u1, u2⟩
          · exfalso; omega
          · rw [if_pos u2]
            exact ih _ _ h0
        · have ke := wk_nlt e
          rw [if_neg e]
          rcases h9 with ⟨u1, u2, u3⟩ | ⟨u1, u2⟩
          · rw [if_neg u3]
            exact ih _ _ h0
          · exfalso; omega
theorem re_sum_R {cl lc : Nat} {x_rowsRead : Int32} {x_rowOfImage : Int32} {x_bestsDone : Int32} {nw_asked : Int32} {nw_looksOfAsked : Int32} {nw_changes : Int32} {nwf_size : Int32} {nwfk_a : Nat → Int32} {nwfv_a : Nat → Int32} {nwfh_a : Nat → Int32} {nwft_a : Nat → Int32} {nws_size : Int32} {nwsk_a : Nat → Int32} {nwsv_a : Nat → Int32} {nwsh_a : Nat → Int32} {nwst_a : Nat → Int32} {nwe_size : Int32} {kp_asked : Int32} {kp_looksOfAsked : Int32} {kp_changes : Int32} {kpf_size : Int32} {kpfk_a : Nat → Int32} {kpfv_a : Nat → Int32} {kpfh_a : Nat → Int32} {kpft_a : Nat → Int32} {kps_size : Int32} {kpsk_a : Nat → Int32} {kpsv_a : Nat → Int32} {kpsh_a : Nat → Int32} {kpst_a : Nat → Int32} {kpe_size : Int32} {mo_law : Int32} {mo_many : Int32} {mo_asked : Int32} {mo_looksAll : Int32} {mo_changes : Int32} {mo_rowsRead : Int32} {mo_secondMany : Int32} {mo_seenMany : Int32} {mo_bestsDone : Int32} {mo_keptRow : Int32} {mo_keptMany : Int32} {mo_keptSecond : Int32} {mo_keptAsked : Int32} {mo_keptLooks : Int32} {mo_keptChanges : Int32} {mo_keptSeen : Int32} {mkeys_a : Nat → Int32} {mvalues_a : Nat → Int32} {mheights_a : Nat → Int32} {mheats_a : Nat → Int32} {msecondKeys_a : Nat → Int32} {msecondValues_a : Nat → Int32} {msecondHeights_a : Nat → Int32} {msecondHeats_a : Nat → Int32} {mkeptKeys_a : Nat → Int32} {mkeptValues_a : Nat → Int32} {mkeptHeights_a : Nat → Int32} {mkeptHeats_a : Nat → Int32} {mkeptKeys2_a : Nat → Int32} {mkeptValues2_a : Nat → Int32} {mkeptHeights2_a : Nat → Int32} {mkeptHeats2_a : Nat → Int32} {a : Int32} {b : Int32}   (hR : re_R cl lc x_rowsRead x_rowOfImage x_bestsDone nw_asked nw_looksOfAsked nw_changes nwf_size nwfk_a nwfv_a nwfh_a nwft_a nws_size nwsk_a nwsv_a nwsh_a nwst_a nwe_size kp_asked kp_looksOfAsked kp_changes kpf_size kpfk_a kpfv_a kpfh_a kpft_a kps_size kpsk_a kpsv_a kpsh_a kpst_a kpe_size mo_law mo_many mo_asked mo_looksAll mo_changes mo_rowsRead mo_secondMany mo_seenMany mo_bestsDone mo_keptRow mo_keptMany mo_keptSecond mo_keptAsked mo_keptLooks mo_keptChanges mo_keptSeen mkeys_a mvalues_a mheights_a mheats_a msecondKeys_a msecondValues_a msecondHeights_a msecondHeats_a mkeptKeys_a mkeptValues_a mkeptHeights_a mkeptHeats_a mkeptKeys2_a mkeptValues2_a mkeptHeights2_a mkeptHeats2_a)  : (fn_X11_sum_R nwf_size nwfk_a nwfv_a a b) = (fn_X12_sum mo_many mkeys_a mvalues_a a b) ∧ re_R (cl + 1) lc x_rowsRead x_rowOfImage x_bestsDone nw_asked nw_looksOfAsked nw_changes nwf_size nwfk_a nwfv_a nwfh_a nwft_a nws_size nwsk_a nwsv_a nwsh_a nwst_a nwe_size kp_asked kp_looksOfAsked kp_changes kpf_size kpfk_a kpfv_a kpfh_a kpft_a kps_size kpsk_a kpsv_a kpsh_a kpst_a kpe_size mo_law mo_many mo_asked mo_looksAll mo_changes mo_rowsRead mo_secondMany mo_seenMany mo_bestsDone mo_keptRow mo_keptMany mo_keptSecond mo_keptAsked mo_keptLooks mo_keptChanges mo_keptSeen mkeys_a mvalues_a mheights_a mheats_a msecondKeys_a msecondValues_a msecondHeights_a msecondHeats_a mkeptKeys_a mkeptValues_a mkeptHeights_a mkeptHeats_a mkeptKeys2_a mkeptValues2_a mkeptHeights2_a mkeptHeats2_a := by
  have hU9 := re_upR hR
  obtain ⟨⟨b1, ⟨q1, q2, q3, q4, q5⟩, hT, hU, b5⟩, hk, hn, hr⟩ := hR
  obtain rfl := hT.1
  obtain rfl := hU.1
  obtain ⟨-, hn8, i1, i2, i3, i4⟩ := id hT
  refine ⟨?_, hU9⟩
  unfold fn_X11_sum_R fn_X12_sum
  rcases ra_isKey a with ⟨ka, kb, kc⟩ | ⟨ka, kb⟩
  · rw [if_pos ka, if_neg kb]
    rcases ra_isKey b with ⟨la, lb, lc'⟩ | ⟨la, lb⟩
    · rw [if_pos la, if_neg lb]
      by_cases c : a ≤ b
      · rw [if_pos c, if_pos c, if_pos (ra_lacks (n := nwf_size) (by omega))]
        unfold fn_X8_valuesBetween
        rw [ra_sumL hn8.2 i1 i2 10 0 0 (by decide)]
      · rw [if_neg c, if_neg c]
    · rw [if_neg la, if_pos lb]
  · rw [if_neg ka, if_pos kb]
theorem re_sum_N {cl : Nat} {x_rowsRead : Int32} {x_rowOfImage : Int32} {x_bestsDone : Int32} {nw_asked : Int32} {nw_looksOfAsked : Int32} {nw_changes : Int32} {nwf_size : Int32} {nwfk_a : Nat → Int32} {nwfv_a : Nat → Int32} {nwfh_a : Nat → Int32} {nwft_a : Nat → Int32} {nws_size : Int32} {nwsk_a : Nat → Int32} {nwsv_a : Nat → Int32} {nwsh_a : Nat → Int32} {nwst_a : Nat → Int32} {nwe_size : Int32} {kp_asked : Int32} {kp_looksOfAsked : Int32} {kp_changes : Int32} {kpf_size : Int32} {kpfk_a : Nat → Int32} {kpfv_a : Nat → Int32} {kpfh_a : Nat → Int32} {kpft_a : Nat → Int32} {kps_size : Int32} {kpsk_a : Nat → Int32} {kpsv_a : Nat → Int32} {kpsh_a : Nat → Int32} {kpst_a : Nat → Int32} {kpe_size : Int32} {mo_law : Int32} {mo_many : Int32} {mo_asked : Int32} {mo_looksAll : Int32} {mo_changes : Int32} {mo_rowsRead : Int32} {mo_secondMany : Int32} {mo_seenMany : Int32} {mo_bestsDone : Int32} {mo_keptRow : Int32} {mo_keptMany : Int32} {mo_keptSecond : Int32} {mo_keptAsked : Int32} {mo_keptLooks : Int32} {mo_keptChanges : Int32} {mo_keptSeen : Int32} {mkeys_a : Nat → Int32} {mvalues_a : Nat → Int32} {mheights_a : Nat → Int32} {mheats_a : Nat → Int32} {msecondKeys_a : Nat → Int32} {msecondValues_a : Nat → Int32} {msecondHeights_a : Nat → Int32} {msecondHeats_a : Nat → Int32} {mkeptKeys_a : Nat → Int32} {mkeptValues_a : Nat → Int32} {mkeptHeights_a : Nat → Int32} {mkeptHeats_a : Nat → Int32} {mkeptKeys2_a : Nat → Int32} {mkeptValues2_a : Nat → Int32} {mkeptHeights2_a : Nat → Int32} {mkeptHeats2_a : Nat → Int32} {a : Int32} {b : Int32}   (hR : re_N cl x_rowsRead x_rowOfImage x_bestsDone nw_asked nw_looksOfAsked nw_changes nwf_size nwfk_a nwfv_a nwfh_a nwft_a nws_size nwsk_a nwsv_a nwsh_a nwst_a nwe_size kp_asked kp_looksOfAsked kp_changes kpf_size kpfk_a kpfv_a kpfh_a kpft_a kps_size kpsk_a kpsv_a kpsh_a kpst_a kpe_size mo_law mo_many mo_asked mo_looksAll mo_changes mo_rowsRead mo_secondMany mo_seenMany mo_bestsDone mo_keptRow mo_keptMany mo_keptSecond mo_keptAsked mo_keptLooks mo_keptChanges mo_keptSeen mkeys_a mvalues_a mheights_a mheats_a msecondKeys_a msecondValues_a msecondHeights_a msecondHeats_a mkeptKeys_a mkeptValues_a mkeptHeights_a mkeptHeats_a mkeptKeys2_a mkeptValues2_a mkeptHeights2_a mkeptHeats2_a)  : (fn_X11_sum_N a b) = (fn_X12_sum mo_many mkeys_a mvalues_a a b) ∧ re_N (cl + 1) x_rowsRead x_rowOfImage x_bestsDone nw_asked nw_looksOfAsked nw_changes nwf_size nwfk_a nwfv_a nwfh_a nwft_a nws_size nwsk_a nwsv_a nwsh_a nwst_a nwe_size kp_asked kp_looksOfAsked kp_changes kpf_size kpfk_a kpfv_a kpfh_a kpft_a kps_size kpsk_a kpsv_a kpsh_a kpst_a kpe_size mo_law mo_many mo_asked mo_looksAll mo_changes mo_rowsRead mo_secondMany mo_seenMany mo_bestsDone mo_keptRow mo_keptMany mo_keptSecond mo_keptAsked mo_keptLooks mo_keptChanges mo_keptSeen mkeys_a mvalues_a mheights_a mheats_a msecondKeys_a msecondValues_a msecondHeights_a msecondHeats_a mkeptKeys_a mkeptValues_a mkeptHeights_a mkeptHeats_a mkeptKeys2_a mkeptValues2_a mkeptHeights2_a mkeptHeats2_a := by
  have hU9 := re_upN hR
  obtain ⟨⟨b1, ⟨q1, q2, q3, q4, q5⟩, hT, hU, b5⟩, hn, hs, hr, hi⟩ := hR
  obtain rfl := hT.1
  obtain rfl := hU.1
  subst hn
  refine ⟨?_, hU9⟩
  unfold fn_X11_sum_N fn_X12_sum
  rcases ra_isKey a with ⟨ka, kb, kc⟩ | ⟨ka, kb⟩
  · rw [if_pos ka, if_neg kb]
    rcases ra_isKey b with ⟨la, lb, lc'⟩ | ⟨la, lb⟩
    · rw [if_pos la, if_neg lb]
      by_cases c : a ≤ b
      · rw [if_pos c, if_pos c, if_neg re_lk0]
      · rw [if_neg c, if_neg c]
    · rw [if_neg la, if_pos lb]
  · rw [if_neg ka, if_pos kb]
