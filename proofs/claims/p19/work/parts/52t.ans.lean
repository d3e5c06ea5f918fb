theorem ra_cosL {n a1 a2 a3 b1 b2 b3 : Int32} {k h t k' h' t' : Nat → Int32} (hn : 0 ≤ n.toInt ∧ n.toInt ≤ 8) (i1 : ra_ag ra_K n.toInt k k') (i3 : ra_ag ra_H n.toInt h h') (i4 : ra_ag ra_K n.toInt t t') : ∀ (fu : Nat) (s x w1 w2 w3 m1 m2 m3 : Int32), 0 ≤ x.toInt → (lp_X9_costOf_5 a1 a2 a3 n k t h fu s x w1 w2 w3).1 = (lp_X12_costOf_4 n b1 b2 b3 k' h' t' fu s x m1 m2 m3).1 := by
  intro fu
  induction fu with
  | zero => intro s x w1 w2 w3 m1 m2 m3 hx; rw [lp_X9_costOf_5, lp_X12_costOf_4]
  | succ fu ih =>
    intro s x w1 w2 w3 m1 m2 m3 hx
    rw [lp_X9_costOf_5, lp_X12_costOf_4]
    by_cases c : n ≤ x
    · simp only [if_pos c]
    · simp only [if_neg c]
      have kx := wk_nle c
      have h0 : 0 ≤ (x + 1).toInt := by rw [ra_inc (by omega) hx]; omega
      obtain ⟨t1, t2⟩ := ra_at i4 hx (by omega)
      have t3 : 0 ≤ (t x.toNatClampNeg).toInt ∧ (t x.toNatClampNeg).toInt ≤ 99 := t2
      obtain ⟨F, L, S, q1, q2, q3⟩ := ra_go hn i1 i3 w1 w2 w3 m1 m2 m3 (k' x.toNatClampNeg)
      unfold fn_X12_looksFor
      rw [(ra_at i1 hx (by omega)).1, q1, q2]
      simp only [ra_pm2]
      rw [t1] at t3
      rw [t1]
      by_cases d : t' x.toNatClampNeg ≤ 0
      · have kd : (t' x.toNatClampNeg).toInt ≤ 0 := wk_le d
        have e0 : t' x.toNatClampNeg = 0 := Int32.toInt_inj.mp (show _ = (0 : Int) by omega)
        rw [if_pos d, e0, Int32.zero_mul, Int32.add_zero]
        exact ih _ _ _ _ _ _ _ _ h0
      · rw [if_neg d]
        exact ih _ _ _ _ _ _ _ _ h0
theorem ra_cos {n w1 w2 w3 m1 m2 m3 : Int32} {k h t k' h' t' : Nat → Int32} (hn : 0 ≤ n.toInt ∧ n.toInt ≤ 8) (i1 : ra_ag ra_K n.toInt k k') (i3 : ra_ag ra_H n.toInt h h') (i4 : ra_ag ra_K n.toInt t t') : (fn_X9_costOf w1 w2 w3 n k t h).1 = (fn_X12_costOf n m1 m2 m3 k' h' t').1 := by
  unfold fn_X9_costOf fn_X12_costOf
  simp only [ra_pm2]
  exact ra_cosL hn i1 i3 i4 10 0 0 w1 w2 w3 m1 m2 m3 (by decide)
theorem re_cost_R {cl lc : Nat} {x_rowsRead : Int32} {x_rowOfImage : Int32} {x_bestsDone : Int32} {nw_asked : Int32} {nw_looksOfAsked : Int32} {nw_changes : Int32} {nwf_size : Int32} {nwfk_a : Nat → Int32} {nwfv_a : Nat → Int32} {nwfh_a : Nat → Int32} {nwft_a : Nat → Int32} {nws_size : Int32} {nwsk_a : Nat → Int32} {nwsv_a : Nat → Int32} {nwsh_a : Nat → Int32} {nwst_a : Nat → Int32} {nwe_size : Int32} {kp_asked : Int32} {kp_looksOfAsked : Int32} {kp_changes : Int32} {kpf_size : Int32} {kpfk_a : Nat → Int32} {kpfv_a : Nat → Int32} {kpfh_a : Nat → Int32} {kpft_a : Nat → Int32} {kps_size : Int32} {kpsk_a : Nat → Int32} {kpsv_a : Nat → Int32} {kpsh_a : Nat → Int32} {kpst_a : Nat → Int32} {kpe_size : Int32} {mo_law : Int32} {mo_many : Int32} {mo_asked : Int32} {mo_looksAll : Int32} {mo_changes : Int32} {mo_rowsRead : Int32} {mo_secondMany : Int32} {mo_seenMany : Int32} {mo_bestsDone : Int32} {mo_keptRow : Int32} {mo_keptMany : Int32} {mo_keptSecond : Int32} {mo_keptAsked : Int32} {mo_keptLooks : Int32} {mo_keptChanges : Int32} {mo_keptSeen : Int32} {mkeys_a : Nat → Int32} {mvalues_a : Nat → Int32} {mheights_a : Nat → Int32} {mheats_a : Nat → Int32} {msecondKeys_a : Nat → Int32} {msecondValues_a : Nat → Int32} {msecondHeights_a : Nat → Int32} {msecondHeats_a : Nat → Int32} {mkeptKeys_a : Nat → Int32} {mkeptValues_a : Nat → Int32} {mkeptHeights_a : Nat → Int32} {mkeptHeats_a : Nat → Int32} {mkeptKeys2_a : Nat → Int32} {mkeptValues2_a : Nat → Int32} {mkeptHeights2_a : Nat → Int32} {mkeptHeats2_a : Nat → Int32} {trw_number : Int32} {trw_lane : Int32} {trw_looks : Int32} {mo_foundAt : Int32} {mo_foundLooks : Int32} {mo_foundLane : Int32} {n_trw_number : Int32} {n_trw_lane : Int32} {n_trw_looks : Int32} {n_mo_foundAt : Int32} {n_mo_foundLooks : Int32} {n_mo_foundLane : Int32} {r r2 : Int32} (hR : re_R cl lc x_rowsRead x_rowOfImage x_bestsDone nw_asked nw_looksOfAsked nw_changes nwf_size nwfk_a nwfv_a nwfh_a nwft_a nws_size nwsk_a nwsv_a nwsh_a nwst_a nwe_size kp_asked kp_looksOfAsked kp_changes kpf_size kpfk_a kpfv_a kpfh_a kpft_a kps_size kpsk_a kpsv_a kpsh_a kpst_a kpe_size mo_law mo_many mo_asked mo_looksAll mo_changes mo_rowsRead mo_secondMany mo_seenMany mo_bestsDone mo_keptRow mo_keptMany mo_keptSecond mo_keptAsked mo_keptLooks mo_keptChanges mo_keptSeen mkeys_a mvalues_a mheights_a mheats_a msecondKeys_a msecondValues_a msecondHeights_a msecondHeats_a mkeptKeys_a mkeptValues_a mkeptHeights_a mkeptHeats_a mkeptKeys2_a mkeptValues2_a mkeptHeights2_a mkeptHeats2_a) (e1 : (r, n_trw_number, n_trw_lane, n_trw_looks) = fn_X11_cost_R nwf_size nwfk_a nwfh_a nwft_a trw_number trw_lane trw_looks) (e2 : (r2, n_mo_foundAt, n_mo_foundLooks, n_mo_foundLane) = fn_X12_cost mo_many mo_foundAt mo_foundLooks mo_foundLane mkeys_a mheights_a mheats_a) : r = r2 ∧ re_R (cl + 1) lc x_rowsRead x_rowOfImage x_bestsDone nw_asked nw_looksOfAsked nw_changes nwf_size nwfk_a nwfv_a nwfh_a nwft_a nws_size nwsk_a nwsv_a nwsh_a nwst_a nwe_size kp_asked kp_looksOfAsked kp_changes kpf_size kpfk_a kpfv_a kpfh_a kpft_a kps_size kpsk_a kpsv_a kpsh_a kpst_a kpe_size mo_law mo_many mo_asked mo_looksAll mo_changes mo_rowsRead mo_secondMany mo_seenMany mo_bestsDone mo_keptRow mo_keptMany mo_keptSecond mo_keptAsked mo_keptLooks mo_keptChanges mo_keptSeen mkeys_a mvalues_a mheights_a mheats_a msecondKeys_a msecondValues_a msecondHeights_a msecondHeats_a mkeptKeys_a mkeptValues_a mkeptHeights_a mkeptHeats_a mkeptKeys2_a mkeptValues2_a mkeptHeights2_a mkeptHeats2_a := by
  have hU9 := re_upR hR
  obtain ⟨⟨b1, ⟨q1, q2, q3, q4, q5⟩, hT, hU, b5⟩, hk, hn, hr⟩ := hR
  obtain rfl := hT.1
  obtain rfl := hU.1
  obtain ⟨-, hn8, i1, i2, i3, i4⟩ := id hT
  refine ⟨?_, hU9⟩
  unfold fn_X11_cost_R at e1
  unfold fn_X12_cost at e2
  rw [if_pos (ra_lacks (n := nwf_size) (by omega))] at e2
  simp only [ra_pm2] at e1 e2
  rw [(Prod.mk.inj e1).1, (Prod.mk.inj e2).1]
  exact ra_cos hn8 i1 i3 i4
theorem re_cost_N {cl : Nat} {x_rowsRead : Int32} {x_rowOfImage : Int32} {x_bestsDone : Int32} {nw_asked : Int32} {nw_looksOfAsked : Int32} {nw_changes : Int32} {nwf_size : Int32} {nwfk_a : Nat → Int32} {nwfv_a : Nat → Int32} {nwfh_a : Nat → Int32} {nwft_a : Nat → Int32} {nws_size : Int32} {nwsk_a : Nat → Int32} {nwsv_a : Nat → Int32} {nwsh_a : Nat → Int32} {nwst_a : Nat → Int32} {nwe_size : Int32} {kp_asked : Int32} {kp_looksOfAsked : Int32} {kp_changes : Int32} {kpf_size : Int32} {kpfk_a : Nat → Int32} {kpfv_a : Nat → Int32} {kpfh_a : Nat → Int32} {kpft_a : Nat → Int32} {kps_size : Int32} {kpsk_a : Nat → Int32} {kpsv_a : Nat → Int32} {kpsh_a : Nat → Int32} {kpst_a : Nat → Int32} {kpe_size : Int32} {mo_law : Int32} {mo_many : Int32} {mo_asked : Int32} {mo_looksAll : Int32} {mo_changes : Int32} {mo_rowsRead : Int32} {mo_secondMany : Int32} {mo_seenMany : Int32} {mo_bestsDone : Int32} {mo_keptRow : Int32} {mo_keptMany : Int32} {mo_keptSecond : Int32} {mo_keptAsked : Int32} {mo_keptLooks : Int32} {mo_keptChanges : Int32} {mo_keptSeen : Int32} {mkeys_a : Nat → Int32} {mvalues_a : Nat → Int32} {mheights_a : Nat → Int32} {mheats_a : Nat → Int32} {msecondKeys_a : Nat → Int32} {msecondValues_a : Nat → Int32} {msecondHeights_a : Nat → Int32} {msecondHeats_a : Nat → Int32} {mkeptKeys_a : Nat → Int32} {mkeptValues_a : Nat → Int32} {mkeptHeights_a : Nat → Int32} {mkeptHeats_a : Nat → Int32} {mkeptKeys2_a : Nat → Int32} {mkeptValues2_a : Nat → Int32} {mkeptHeights2_a : Nat → Int32} {mkeptHeats2_a : Nat → Int32} {mo_foundAt : Int32} {mo_foundLooks : Int32} {mo_foundLane : Int32} {n_mo_foundAt : Int32} {n_mo_foundLooks : Int32} {n_mo_foundLane : Int32} {r2 : Int32} (hR : re_N cl x_rowsRead x_rowOfImage x_bestsDone nw_asked nw_looksOfAsked nw_changes nwf_size nwfk_a nwfv_a nwfh_a nwft_a nws_size nwsk_a nwsv_a nwsh_a nwst_a nwe_size kp_asked kp_looksOfAsked kp_changes kpf_size kpfk_a kpfv_a kpfh_a kpft_a kps_size kpsk_a kpsv_a kpsh_a kpst_a kpe_size mo_law mo_many mo_asked mo_looksAll mo_changes mo_rowsRead mo_secondMany mo_seenMany mo_bestsDone mo_keptRow mo_keptMany mo_keptSecond mo_keptAsked mo_keptLooks mo_keptChanges mo_keptSeen mkeys_a mvalues_a mheights_a mheats_a msecondKeys_a msecondValues_a msecondHeights_a msecondHeats_a mkeptKeys_a mkeptValues_a mkeptHeights_a mkeptHeats_a mkeptKeys2_a mkeptValues2_a mkeptHeights2_a mkeptHeats2_a) (e2 : (r2, n_mo_foundAt, n_mo_foundLooks, n_mo_foundLane) = fn_X12_cost mo_many mo_foundAt mo_foundLooks mo_foundLane mkeys_a mheights_a mheats_a) : fn_X11_cost_N = r2 ∧ re_N (cl + 1) x_rowsRead x_rowOfImage x_bestsDone nw_asked nw_looksOfAsked nw_changes nwf_size nwfk_a nwfv_a nwfh_a nwft_a nws_size nwsk_a nwsv_a nwsh_a nwst_a nwe_size kp_asked kp_looksOfAsked kp_changes kpf_size kpfk_a kpfv_a kpfh_a kpft_a kps_size kpsk_a kpsv_a kpsh_a kpst_a kpe_size mo_law mo_many mo_asked mo_looksAll mo_changes mo_rowsRead mo_secondMany mo_seenMany mo_bestsDone mo_keptRow mo_keptMany mo_keptSecond mo_keptAsked mo_keptLooks mo_keptChanges mo_keptSeen mkeys_a mvalues_a mheights_a mheats_a msecondKeys_a msecondValues_a msecondHeights_a msecondHeats_a mkeptKeys_a mkeptValues_a mkeptHeights_a mkeptHeats_a mkeptKeys2_a mkeptValues2_a mkeptHeights2_a mkeptHeats2_a := by
  have hU9 := re_upN hR
  obtain ⟨⟨b1, ⟨q1, q2, q3, q4, q5⟩, hT, hU, b5⟩, hn, hs, hr, hi⟩ := hR
  obtain rfl := hT.1
  obtain rfl := hU.1
  subst hn
  unfold fn_X12_cost at e2
  unfold fn_X11_cost_N
  rw [if_neg re_lk0] at e2
  cases e2
  exact ⟨rfl, hU9⟩
