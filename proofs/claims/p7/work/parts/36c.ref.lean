def fn_X12_looksIf (mo_many : Int32) (mo_foundAt : Int32) (mo_foundLooks : Int32) (mo_foundLane : Int32) (mkeys_a : Nat → Int32) (mheights_a : Nat → Int32) (a : Int32) (b : Int32) (d : Int32) : Int32 × Int32 × Int32 × Int32 := (pm2 (fn_X12_looksFor mo_many mo_foundAt mo_foundLooks mo_foundLane mkeys_a (upd mheights_a a.toNatClampNeg b) d) (fun r_1 t_ => (pm2 (t_) (fun o_4 t_ => (pm2 (t_) (fun o_5 o_6 => (r_1, o_4, o_5, o_6)))))))
theorem dX12_looksIf_0 : decode cX12_looksIf 0 = .ok (.aload_n 0, 1) := by decide +kernel
theorem dX12_looksIf_1 : decode cX12_looksIf 1 = .ok (.getfield 19, 3) := by decide +kernel
theorem dX12_looksIf_4 : decode cX12_looksIf 4 = .ok (.iload_n 1, 1) := by decide +kernel
theorem dX12_looksIf_5 : decode cX12_looksIf 5 = .ok (.iaload, 1) := by decide +kernel
theorem dX12_looksIf_6 : decode cX12_looksIf 6 = .ok (.istore 4, 2) := by decide +kernel
theorem dX12_looksIf_8 : decode cX12_looksIf 8 = .ok (.aload_n 0, 1) := by decide +kernel
theorem dX12_looksIf_9 : decode cX12_looksIf 9 = .ok (.getfield 19, 3) := by decide +kernel
theorem dX12_looksIf_12 : decode cX12_looksIf 12 = .ok (.iload_n 1, 1) := by decide +kernel
theorem dX12_looksIf_13 : decode cX12_looksIf 13 = .ok (.iload_n 2, 1) := by decide +kernel
theorem dX12_looksIf_14 : decode cX12_looksIf 14 = .ok (.iastore, 1) := by decide +kernel
theorem dX12_looksIf_15 : decode cX12_looksIf 15 = .ok (.aload_n 0, 1) := by decide +kernel
theorem dX12_looksIf_16 : decode cX12_looksIf 16 = .ok (.iload_n 3, 1) := by decide +kernel
theorem dX12_looksIf_17 : decode cX12_looksIf 17 = .ok (.invokevirtual 214, 3) := by decide +kernel
theorem dX12_looksIf_20 : decode cX12_looksIf 20 = .ok (.istore 5, 2) := by decide +kernel
theorem dX12_looksIf_22 : decode cX12_looksIf 22 = .ok (.aload_n 0, 1) := by decide +kernel
theorem dX12_looksIf_23 : decode cX12_looksIf 23 = .ok (.getfield 19, 3) := by decide +kernel
theorem dX12_looksIf_26 : decode cX12_looksIf 26 = .ok (.iload_n 1, 1) := by decide +kernel
theorem dX12_looksIf_27 : decode cX12_looksIf 27 = .ok (.iload 4, 2) := by decide +kernel
theorem dX12_looksIf_29 : decode cX12_looksIf 29 = .ok (.iastore, 1) := by decide +kernel
theorem dX12_looksIf_30 : decode cX12_looksIf 30 = .ok (.iload 5, 2) := by decide +kernel
theorem dX12_looksIf_32 : decode cX12_looksIf 32 = .ok (.ireturn, 1) := by decide +kernel
set_option maxHeartbeats 4000000 in
set_option maxRecDepth 100000 in
theorem c_X12_looksIf (l : Launch) (D : va_G) (cy : ClassId) (mo mpage mkeys mvalues mheights mheats msecondKeys msecondValues msecondHeights msecondHeats msaved mbestHeights msights mby mkeptKeys mkeptValues mkeptHeights mkeptHeats mkeptKeys2 mkeptValues2 mkeptHeights2 mkeptHeats2 mkeptSights : Nat) (mo_pageMany : Int32) (mo_law : Int32) (mo_many : Int32) (mo_asked : Int32) (mo_looksAll : Int32) (mo_changes : Int32) (mo_rowsRead : Int32) (mo_secondMany : Int32) (mo_foundAt : Int32) (mo_foundLooks : Int32) (mo_foundLane : Int32) (mo_bestsDone : Int32) (mo_seenMany : Int32) (mo_seedNow : Int32) (mo_keptRow : Int32) (mo_keptMany : Int32) (mo_keptSecond : Int32) (mo_keptAsked : Int32) (mo_keptLooks : Int32) (mo_keptChanges : Int32) (mo_keptSeen : Int32) (mo_hash : Int64) (mkeys_a : Nat → Int32) (mheights_a : Nat → Int32) (a : Int32) (b : Int32) (d : Int32) (g_0 : 0 ≤ mo_pageMany.toInt ∧ mo_pageMany.toInt ≤ 44) (g_1 : 0 ≤ mo_many.toInt ∧ mo_many.toInt ≤ 8) (g_2 : 0 ≤ mo_secondMany.toInt ∧ mo_secondMany.toInt ≤ 8) (g_3 : (-1) ≤ mo_foundAt.toInt ∧ mo_foundAt.toInt ≤ 7) (g_4 : 0 ≤ mo_seenMany.toInt ∧ mo_seenMany.toInt ≤ 6) (g_5 : 0 ≤ mo_keptMany.toInt ∧ mo_keptMany.toInt ≤ 8) (g_6 : 0 ≤ mo_keptSecond.toInt ∧ mo_keptSecond.toInt ≤ 8) (g_7 : 0 ≤ mo_keptSeen.toInt ∧ mo_keptSeen.toInt ≤ 6) (g_8 : 0 ≤ a.toInt ∧ a.toInt ≤ 7) : wk_Ci l yX12_looksIf cX12_looksIf 6 (some .int) { frames := 4, cells := 0, slots := 0, locals := 92 } D cy [.ref mo, .int a, .int b, .int d] [(mo, .inr (12, [.ref mpage, .int mo_pageMany, .int mo_law, .int mo_many, .int mo_asked, .int mo_looksAll, .int mo_changes, .int mo_rowsRead, .ref mkeys, .ref mvalues, .ref mheights, .ref mheats, .int mo_secondMany, .ref msecondKeys, .ref msecondValues, .ref msecondHeights, .ref msecondHeats, .int mo_foundAt, .int mo_foundLooks, .int mo_foundLane, .int mo_bestsDone, .ref msaved, .ref mbestHeights, .int mo_seenMany, .ref msights, .ref mby, .int mo_seedNow, .int mo_keptRow, .int mo_keptMany, .int mo_keptSecond, .int mo_keptAsked, .int mo_keptLooks, .int mo_keptChanges, .int mo_keptSeen, .ref mkeptKeys, .ref mkeptValues, .ref mkeptHeights, .ref mkeptHeats, .ref mkeptKeys2, .ref mkeptValues2, .ref mkeptHeights2, .ref mkeptHeats2, .ref mkeptSights, .long mo_hash])), (mkeys, .inl (cy, 8, .inl mkeys_a)), (mheights, .inl (cy, 8, .inl mheights_a))] 0 0 (fun (r : Int32) (u : Int32 × Int32 × Int32) => (r, u) = (fn_X12_looksIf mo_many mo_foundAt mo_foundLooks mo_foundLane mkeys_a mheights_a a b d) ∧ ((-1) ≤ u.1.toInt ∧ u.1.toInt ≤ 7)) (fun u => [(mo, .inr (12, [.ref mpage, .int mo_pageMany, .int mo_law, .int mo_many, .int mo_asked, .int mo_looksAll, .int mo_changes, .int mo_rowsRead, .ref mkeys, .ref mvalues, .ref mheights, .ref mheats, .int mo_secondMany, .ref msecondKeys, .ref msecondValues, .ref msecondHeights, .ref msecondHeats, .int u.1, .int u.2.1, .int u.2.2, .int mo_bestsDone, .ref msaved, .ref mbestHeights, .int mo_seenMany, .ref msights, .ref mby, .int mo_seedNow, .int mo_keptRow, .int mo_keptMany, .int mo_keptSecond, .int mo_keptAsked, .int mo_keptLooks, .int mo_keptChanges, .int mo_keptSeen, .ref mkeptKeys, .ref mkeptValues, .ref mkeptHeights, .ref mkeptHeats, .ref mkeptKeys2, .ref mkeptValues2, .ref mkeptHeights2, .ref mkeptHeats2, .ref mkeptSights, .long mo_hash])), (mkeys, .inl (cy, 8, .inl mkeys_a)), (mheights, .inl (cy, 8, .inl mheights_a))]) := by
  refine wk_mk2Ci (by decide) (Nat.le_of_ble_eq_true rfl) ?_
  intro p e s m args below meth c A ls Q B hA hK hP hD hS hl hret
  obtain ⟨hx, hb, hr, hlocks, hml, hown, htb, hin⟩ := B
  have hl : lv_has ls 6 [(0, .ref mo), (1, .int a), (2, .int b), (3, .int d)] := hl
  have hF : (fn_X12_looksIf mo_many mo_foundAt mo_foundLooks mo_foundLane mkeys_a mheights_a a b d) = (fn_X12_looksIf mo_many mo_foundAt mo_foundLooks mo_foundLane mkeys_a mheights_a a b d) := rfl
  conv at hF => rhs; unfold fn_X12_looksIf
  refine lv_aload_n hx hb dX12_looksIf_0 rfl (lv_at hl 0 rfl) ?_
  refine va_get (D := D) (ci := 12) (v := .ref mheights) (C := RX12) (T := TX12) (N := 44) hx hb htb inX12 hown hK hP 0 rfl rfl 10 (by decide) (htb _ tw_773) (fun _ h9 => h9) rfl dX12_looksIf_1 ?_
  refine lv_iload_n hx hb dX12_looksIf_4 rfl (lv_at hl 1 rfl) ?_
  refine va_iald hx hb hK hP 2 0 rfl rfl (show vp_in a 8 from vp_in_iff.mpr (show 0 ≤ a.toInt ∧ a.toInt < ((8 : Nat) : Int) from by omega)) dX12_looksIf_5 ?_
  refine lv_istore (lv' := [(4, .int (mheights_a a.toNatClampNeg)), (0, .ref mo), (1, .int a), (2, .int b), (3, .int d)]) hx hb dX12_looksIf_6 hl (by decide) rfl (fun ls hl => ?_)
  refine lv_aload_n hx hb dX12_looksIf_8 rfl (lv_at hl 1 rfl) ?_
  refine va_get (D := D) (ci := 12) (v := .ref mheights) (C := RX12) (T := TX12) (N := 44) hx hb htb inX12 hown hK hP 0 rfl rfl 10 (by decide) (htb _ tw_773) (fun _ h9 => h9) rfl dX12_looksIf_9 ?_
  refine lv_iload_n hx hb dX12_looksIf_12 rfl (lv_at hl 2 rfl) ?_
  refine lv_iload_n hx hb dX12_looksIf_13 rfl (lv_at hl 3 rfl) ?_
  refine va_iast hx hb hK hP hD hS 2 0 rfl rfl (show vp_in a 8 from vp_in_iff.mpr (show 0 ≤ a.toInt ∧ a.toInt < ((8 : Nat) : Int) from by omega)) dX12_looksIf_14 (fun H locs hP hD hS => ?_)
  have hP : va_P D classes [(mo, .inr (12, [.ref mpage, .int mo_pageMany, .int mo_law, .int mo_many, .int mo_asked, .int mo_looksAll, .int mo_changes, .int mo_rowsRead, .ref mkeys, .ref mvalues, .ref mheights, .ref mheats, .int mo_secondMany, .ref msecondKeys, .ref msecondValues, .ref msecondHeights, .ref msecondHeats, .int mo_foundAt, .int mo_foundLooks, .int mo_foundLane, .int mo_bestsDone, .ref msaved, .ref mbestHeights, .int mo_seenMany, .ref msights, .ref mby, .int mo_seedNow, .int mo_keptRow, .int mo_keptMany, .int mo_keptSecond, .int mo_keptAsked, .int mo_keptLooks, .int mo_keptChanges, .int mo_keptSeen, .ref mkeptKeys, .ref mkeptValues, .ref mkeptHeights, .ref mkeptHeats, .ref mkeptKeys2, .ref mkeptValues2, .ref mkeptHeights2, .ref mkeptHeats2, .ref mkeptSights, .long mo_hash])), (mkeys, .inl (cy, 8, .inl mkeys_a)), (mheights, .inl (cy, 8, .inl (upd mheights_a a.toNatClampNeg b)))] H := hP
  have hD : va_D A [(mo, .inr (12, [.ref mpage, .int mo_pageMany, .int mo_law, .int mo_many, .int mo_asked, .int mo_looksAll, .int mo_changes, .int mo_rowsRead, .ref mkeys, .ref mvalues, .ref mheights, .ref mheats, .int mo_secondMany, .ref msecondKeys, .ref msecondValues, .ref msecondHeights, .ref msecondHeats, .int mo_foundAt, .int mo_foundLooks, .int mo_foundLane, .int mo_bestsDone, .ref msaved, .ref mbestHeights, .int mo_seenMany, .ref msights, .ref mby, .int mo_seedNow, .int mo_keptRow, .int mo_keptMany, .int mo_keptSecond, .int mo_keptAsked, .int mo_keptLooks, .int mo_keptChanges, .int mo_keptSeen, .ref mkeptKeys, .ref mkeptValues, .ref mkeptHeights, .ref mkeptHeats, .ref mkeptKeys2, .ref mkeptValues2, .ref mkeptHeights2, .ref mkeptHeats2, .ref mkeptSights, .long mo_hash])), (mkeys, .inl (cy, 8, .inl mkeys_a)), (mheights, .inl (cy, 8, .inl (upd mheights_a a.toNatClampNeg b)))] := hD
  refine lv_aload_n hx hb dX12_looksIf_15 rfl (lv_at hl 1 rfl) ?_
  refine lv_iload_n hx hb dX12_looksIf_16 rfl (lv_at hl 4 rfl) ?_
  refine wk_iV (As := [.int d]) (rest := []) (wc := [(mo, .inr (12, [.ref mpage, .int mo_pageMany, .int mo_law, .int mo_many, .int mo_asked, .int mo_looksAll, .int mo_changes, .int mo_rowsRead, .ref mkeys, .ref mvalues, .ref mheights, .ref mheats, .int mo_secondMany, .ref msecondKeys, .ref msecondValues, .ref msecondHeights, .ref msecondHeats, .int mo_foundAt, .int mo_foundLooks, .int mo_foundLane, .int mo_bestsDone, .ref msaved, .ref mbestHeights, .int mo_seenMany, .ref msights, .ref mby, .int mo_seedNow, .int mo_keptRow, .int mo_keptMany, .int mo_keptSecond, .int mo_keptAsked, .int mo_keptLooks, .int mo_keptChanges, .int mo_keptSeen, .ref mkeptKeys, .ref mkeptValues, .ref mkeptHeights, .ref mkeptHeats, .ref mkeptKeys2, .ref mkeptValues2, .ref mkeptHeights2, .ref mkeptHeats2, .ref mkeptSights, .long mo_hash])), (mkeys, .inl (cy, 8, .inl mkeys_a)), (mheights, .inl (cy, 8, .inl (upd mheights_a a.toNatClampNeg b)))]) (wr := []) (n := 1) ⟨hx, hb, hml, hown, htb⟩ (c_X12_looksFor l D cy mo mpage mkeys mvalues mheights mheats msecondKeys msecondValues msecondHeights msecondHeats msaved mbestHeights msights mby mkeptKeys mkeptValues mkeptHeights mkeptHeats mkeptKeys2 mkeptValues2 mkeptHeights2 mkeptHeats2 mkeptSights mo_pageMany mo_law mo_many mo_asked mo_looksAll mo_changes mo_rowsRead mo_secondMany mo_foundAt mo_foundLooks mo_foundLane mo_bestsDone mo_seenMany mo_seedNow mo_keptRow mo_keptMany mo_keptSecond mo_keptAsked mo_keptLooks mo_keptChanges mo_keptSeen mo_hash mkeys_a (upd mheights_a a.toNatClampNeg b) d (show 0 ≤ mo_pageMany.toInt ∧ mo_pageMany.toInt ≤ 44 from by omega) (show 0 ≤ mo_many.toInt ∧ mo_many.toInt ≤ 8 from by omega) (show 0 ≤ mo_secondMany.toInt ∧ mo_secondMany.toInt ≤ 8 from by omega) (show (-1) ≤ mo_foundAt.toInt ∧ mo_foundAt.toInt ≤ 7 from by omega) (show 0 ≤ mo_seenMany.toInt ∧ mo_seenMany.toInt ≤ 6 from by omega) (show 0 ≤ mo_keptMany.toInt ∧ mo_keptMany.toInt ≤ 8 from by omega) (show 0 ≤ mo_keptSecond.toInt ∧ mo_keptSecond.toInt ≤ 8 from by omega) (show 0 ≤ mo_keptSeen.toInt ∧ mo_keptSeen.toInt ≤ 6 from by omega)) tw_1038 tw_1035 tw_1037 tw_40 tw_71 rfl rfl (by decide +kernel) ⟨Nat.le_of_ble_eq_true rfl, Nat.le_of_ble_eq_true rfl⟩ hK hP hD hS hA [0, 1, 2] [] rfl rfl rfl rfl (by decide) 0 (ci := 12) rfl rfl rfl hl.1 rfl (Nat.le_of_ble_eq_true rfl) dX12_looksIf_17 ⟨Nat.le_of_ble_eq_true rfl, Nat.le_of_ble_eq_true rfl⟩ (fun r_1 u_2 H locs hw_3 hP hD hS => ?_)
  refine W.widen (k := 0) (n := 0) (by decide) (by decide) ?_
  obtain ⟨o_4, o_5, o_6⟩ := u_2
  obtain ⟨hw_3, k_7⟩ := hw_3
  have hw_3 : (r_1, o_4, o_5, o_6) = (fn_X12_looksFor mo_many mo_foundAt mo_foundLooks mo_foundLane mkeys_a (upd mheights_a a.toNatClampNeg b) d) := hw_3
  have k_7 : ((-1) ≤ o_4.toInt ∧ o_4.toInt ≤ 7) := k_7
  rw [← hw_3] at hF
  rw [pm2_mk r_1 (o_4, o_5, o_6), pm2_mk o_4 (o_5, o_6), pm2_mk o_5 o_6] at hF
  have hP : va_P D classes [(mo, .inr (12, [.ref mpage, .int mo_pageMany, .int mo_law, .int mo_many, .int mo_asked, .int mo_looksAll, .int mo_changes, .int mo_rowsRead, .ref mkeys, .ref mvalues, .ref mheights, .ref mheats, .int mo_secondMany, .ref msecondKeys, .ref msecondValues, .ref msecondHeights, .ref msecondHeats, .int o_4, .int o_5, .int o_6, .int mo_bestsDone, .ref msaved, .ref mbestHeights, .int mo_seenMany, .ref msights, .ref mby, .int mo_seedNow, .int mo_keptRow, .int mo_keptMany, .int mo_keptSecond, .int mo_keptAsked, .int mo_keptLooks, .int mo_keptChanges, .int mo_keptSeen, .ref mkeptKeys, .ref mkeptValues, .ref mkeptHeights, .ref mkeptHeats, .ref mkeptKeys2, .ref mkeptValues2, .ref mkeptHeights2, .ref mkeptHeats2, .ref mkeptSights, .long mo_hash])), (mkeys, .inl (cy, 8, .inl mkeys_a)), (mheights, .inl (cy, 8, .inl (upd mheights_a a.toNatClampNeg b)))] H := hP
  have hD : va_D A [(mo, .inr (12, [.ref mpage, .int mo_pageMany, .int mo_law, .int mo_many, .int mo_asked, .int mo_looksAll, .int mo_changes, .int mo_rowsRead, .ref mkeys, .ref mvalues, .ref mheights, .ref mheats, .int mo_secondMany, .ref msecondKeys, .ref msecondValues, .ref msecondHeights, .ref msecondHeats, .int o_4, .int o_5, .int o_6, .int mo_bestsDone, .ref msaved, .ref mbestHeights, .int mo_seenMany, .ref msights, .ref mby, .int mo_seedNow, .int mo_keptRow, .int mo_keptMany, .int mo_keptSecond, .int mo_keptAsked, .int mo_keptLooks, .int mo_keptChanges, .int mo_keptSeen, .ref mkeptKeys, .ref mkeptValues, .ref mkeptHeights, .ref mkeptHeats, .ref mkeptKeys2, .ref mkeptValues2, .ref mkeptHeights2, .ref mkeptHeats2, .ref mkeptSights, .long mo_hash])), (mkeys, .inl (cy, 8, .inl mkeys_a)), (mheights, .inl (cy, 8, .inl (upd mheights_a a.toNatClampNeg b)))] := hD
  refine lv_istore (lv' := [(5, .int r_1), (4, .int (mheights_a a.toNatClampNeg)), (0, .ref mo), (1, .int a), (2, .int b), (3, .int d)]) hx hb dX12_looksIf_20 hl (by decide) rfl (fun ls hl => ?_)
  refine lv_aload_n hx hb dX12_looksIf_22 rfl (lv_at hl 2 rfl) ?_
  refine va_get (D := D) (ci := 12) (v := .ref mheights) (C := RX12) (T := TX12) (N := 44) hx hb htb inX12 hown hK hP 0 rfl rfl 10 (by decide) (htb _ tw_773) (fun _ h9 => h9) rfl dX12_looksIf_23 ?_
  refine lv_iload_n hx hb dX12_looksIf_26 rfl (lv_at hl 3 rfl) ?_
  refine lv_iload hx hb dX12_looksIf_27 (lv_at hl 1 rfl) ?_
  refine va_iast hx hb hK hP hD hS 2 0 rfl rfl (show vp_in a 8 from vp_in_iff.mpr (show 0 ≤ a.toInt ∧ a.toInt < ((8 : Nat) : Int) from by omega)) dX12_looksIf_29 (fun H locs hP hD hS => ?_)
  have hP : va_P D classes [(mo, .inr (12, [.ref mpage, .int mo_pageMany, .int mo_law, .int mo_many, .int mo_asked, .int mo_looksAll, .int mo_changes, .int mo_rowsRead, .ref mkeys, .ref mvalues, .ref mheights, .ref mheats, .int mo_secondMany, .ref msecondKeys, .ref msecondValues, .ref msecondHeights, .ref msecondHeats, .int o_4, .int o_5, .int o_6, .int mo_bestsDone, .ref msaved, .ref mbestHeights, .int mo_seenMany, .ref msights, .ref mby, .int mo_seedNow, .int mo_keptRow, .int mo_keptMany, .int mo_keptSecond, .int mo_keptAsked, .int mo_keptLooks, .int mo_keptChanges, .int mo_keptSeen, .ref mkeptKeys, .ref mkeptValues, .ref mkeptHeights, .ref mkeptHeats, .ref mkeptKeys2, .ref mkeptValues2, .ref mkeptHeights2, .ref mkeptHeats2, .ref mkeptSights, .long mo_hash])), (mkeys, .inl (cy, 8, .inl mkeys_a)), (mheights, .inl (cy, 8, .inl (upd (upd mheights_a a.toNatClampNeg b) a.toNatClampNeg (mheights_a a.toNatClampNeg))))] H := hP
  have hD : va_D A [(mo, .inr (12, [.ref mpage, .int mo_pageMany, .int mo_law, .int mo_many, .int mo_asked, .int mo_looksAll, .int mo_changes, .int mo_rowsRead, .ref mkeys, .ref mvalues, .ref mheights, .ref mheats, .int mo_secondMany, .ref msecondKeys, .ref msecondValues, .ref msecondHeights, .ref msecondHeats, .int o_4, .int o_5, .int o_6, .int mo_bestsDone, .ref msaved, .ref mbestHeights, .int mo_seenMany, .ref msights, .ref mby, .int mo_seedNow, .int mo_keptRow, .int mo_keptMany, .int mo_keptSecond, .int mo_keptAsked, .int mo_keptLooks, .int mo_keptChanges, .int mo_keptSeen, .ref mkeptKeys, .ref mkeptValues, .ref mkeptHeights, .ref mkeptHeats, .ref mkeptKeys2, .ref mkeptValues2, .ref mkeptHeights2, .ref mkeptHeats2, .ref mkeptSights, .long mo_hash])), (mkeys, .inl (cy, 8, .inl mkeys_a)), (mheights, .inl (cy, 8, .inl (upd (upd mheights_a a.toNatClampNeg b) a.toNatClampNeg (mheights_a a.toNatClampNeg))))] := hD
  refine lv_iload hx hb dX12_looksIf_30 (lv_at hl 0 rfl) ?_
  have hn_8 : (upd (upd mheights_a a.toNatClampNeg b) a.toNatClampNeg (mheights_a a.toNatClampNeg)) = mheights_a := by first | exact wk_updb _ _ _ | exact wk_upds _ _ | assumption
  rw [hn_8] at hP hD
  have hP : va_P D classes [(mo, .inr (12, [.ref mpage, .int mo_pageMany, .int mo_law, .int mo_many, .int mo_asked, .int mo_looksAll, .int mo_changes, .int mo_rowsRead, .ref mkeys, .ref mvalues, .ref mheights, .ref mheats, .int mo_secondMany, .ref msecondKeys, .ref msecondValues, .ref msecondHeights, .ref msecondHeats, .int o_4, .int o_5, .int o_6, .int mo_bestsDone, .ref msaved, .ref mbestHeights, .int mo_seenMany, .ref msights, .ref mby, .int mo_seedNow, .int mo_keptRow, .int mo_keptMany, .int mo_keptSecond, .int mo_keptAsked, .int mo_keptLooks, .int mo_keptChanges, .int mo_keptSeen, .ref mkeptKeys, .ref mkeptValues, .ref mkeptHeights, .ref mkeptHeats, .ref mkeptKeys2, .ref mkeptValues2, .ref mkeptHeights2, .ref mkeptHeats2, .ref mkeptSights, .long mo_hash])), (mkeys, .inl (cy, 8, .inl mkeys_a)), (mheights, .inl (cy, 8, .inl mheights_a))] H := hP
  have hD : va_D A [(mo, .inr (12, [.ref mpage, .int mo_pageMany, .int mo_law, .int mo_many, .int mo_asked, .int mo_looksAll, .int mo_changes, .int mo_rowsRead, .ref mkeys, .ref mvalues, .ref mheights, .ref mheats, .int mo_secondMany, .ref msecondKeys, .ref msecondValues, .ref msecondHeights, .ref msecondHeats, .int o_4, .int o_5, .int o_6, .int mo_bestsDone, .ref msaved, .ref mbestHeights, .int mo_seenMany, .ref msights, .ref mby, .int mo_seedNow, .int mo_keptRow, .int mo_keptMany, .int mo_keptSecond, .int mo_keptAsked, .int mo_keptLooks, .int mo_keptChanges, .int mo_keptSeen, .ref mkeptKeys, .ref mkeptValues, .ref mkeptHeights, .ref mkeptHeats, .ref mkeptKeys2, .ref mkeptValues2, .ref mkeptHeights2, .ref mkeptHeats2, .ref mkeptSights, .long mo_hash])), (mkeys, .inl (cy, 8, .inl mkeys_a)), (mheights, .inl (cy, 8, .inl mheights_a))] := hD
  refine W.widen (k := 0) (n := 0) (by decide) (by decide) ?_
  exact hret r_1 (o_4, o_5, o_6) _ _ _ 32 (wk_sub9 (is := [0, 1, 2]) hP rfl) (hD.sub [0, 1, 2] rfl rfl) hS dX12_looksIf_32 ⟨hF.symm, (show ((-1) ≤ o_4.toInt ∧ o_4.toInt ≤ 7) from by omega)⟩
theorem dX12_heightsOf_0 : decode cX12_heightsOf 0 = .ok (.iconst 0, 1) := by decide +kernel
theorem dX12_heightsOf_1 : decode cX12_heightsOf 1 = .ok (.istore_n 2, 1) := by decide +kernel
theorem dX12_heightsOf_2 : decode cX12_heightsOf 2 = .ok (.iconst 1, 1) := by decide +kernel
theorem dX12_heightsOf_3 : decode cX12_heightsOf 3 = .ok (.istore_n 3, 1) := by decide +kernel
theorem dX12_heightsOf_4 : decode cX12_heightsOf 4 = .ok (.iload_n 3, 1) := by decide +kernel
theorem dX12_heightsOf_5 : decode cX12_heightsOf 5 = .ok (.iconst 5, 1) := by decide +kernel
theorem dX12_heightsOf_6 : decode cX12_heightsOf 6 = .ok (.if_icmp .ge 99, 3) := by decide +kernel
theorem dX12_heightsOf_9 : decode cX12_heightsOf 9 = .ok (.iconst 1, 1) := by decide +kernel
theorem dX12_heightsOf_10 : decode cX12_heightsOf 10 = .ok (.istore 4, 2) := by decide +kernel
theorem dX12_heightsOf_12 : decode cX12_heightsOf 12 = .ok (.iconst 0, 1) := by decide +kernel
theorem dX12_heightsOf_13 : decode cX12_heightsOf 13 = .ok (.istore 5, 2) := by decide +kernel
theorem dX12_heightsOf_15 : decode cX12_heightsOf 15 = .ok (.iload 5, 2) := by decide +kernel
theorem dX12_heightsOf_17 : decode cX12_heightsOf 17 = .ok (.iconst 3, 1) := by decide +kernel
theorem dX12_heightsOf_18 : decode cX12_heightsOf 18 = .ok (.aload_n 0, 1) := by decide +kernel
theorem dX12_heightsOf_19 : decode cX12_heightsOf 19 = .ok (.getfield 139, 3) := by decide +kernel
theorem dX12_heightsOf_22 : decode cX12_heightsOf 22 = .ok (.imul, 1) := by decide +kernel
theorem dX12_heightsOf_23 : decode cX12_heightsOf 23 = .ok (.if_icmp .ge 59, 3) := by decide +kernel
theorem dX12_heightsOf_26 : decode cX12_heightsOf 26 = .ok (.aload_n 0, 1) := by decide +kernel
theorem dX12_heightsOf_27 : decode cX12_heightsOf 27 = .ok (.getfield 43, 3) := by decide +kernel
theorem dX12_heightsOf_30 : decode cX12_heightsOf 30 = .ok (.iload 5, 2) := by decide +kernel
theorem dX12_heightsOf_32 : decode cX12_heightsOf 32 = .ok (.iaload, 1) := by decide +kernel
theorem dX12_heightsOf_33 : decode cX12_heightsOf 33 = .ok (.iload_n 1, 1) := by decide +kernel
theorem dX12_heightsOf_34 : decode cX12_heightsOf 34 = .ok (.if_icmp .ne 42, 3) := by decide +kernel
theorem dX12_heightsOf_37 : decode cX12_heightsOf 37 = .ok (.iload 4, 2) := by decide +kernel
theorem dX12_heightsOf_39 : decode cX12_heightsOf 39 = .ok (.ifCond .eq 34, 3) := by decide +kernel
theorem dX12_heightsOf_42 : decode cX12_heightsOf 42 = .ok (.aload_n 0, 1) := by decide +kernel
theorem dX12_heightsOf_43 : decode cX12_heightsOf 43 = .ok (.iload_n 1, 1) := by decide +kernel
theorem dX12_heightsOf_44 : decode cX12_heightsOf 44 = .ok (.iload_n 3, 1) := by decide +kernel
theorem dX12_heightsOf_45 : decode cX12_heightsOf 45 = .ok (.aload_n 0, 1) := by decide +kernel
theorem dX12_heightsOf_46 : decode cX12_heightsOf 46 = .ok (.getfield 43, 3) := by decide +kernel
theorem dX12_heightsOf_49 : decode cX12_heightsOf 49 = .ok (.iload 5, 2) := by decide +kernel
theorem dX12_heightsOf_51 : decode cX12_heightsOf 51 = .ok (.iconst 1, 1) := by decide +kernel
theorem dX12_heightsOf_52 : decode cX12_heightsOf 52 = .ok (.iadd, 1) := by decide +kernel
theorem dX12_heightsOf_53 : decode cX12_heightsOf 53 = .ok (.iaload, 1) := by decide +kernel
theorem dX12_heightsOf_54 : decode cX12_heightsOf 54 = .ok (.invokevirtual 282, 3) := by decide +kernel
theorem dX12_heightsOf_57 : decode cX12_heightsOf 57 = .ok (.aload_n 0, 1) := by decide +kernel
theorem dX12_heightsOf_58 : decode cX12_heightsOf 58 = .ok (.getfield 43, 3) := by decide +kernel
theorem dX12_heightsOf_61 : decode cX12_heightsOf 61 = .ok (.iload 5, 2) := by decide +kernel
theorem dX12_heightsOf_63 : decode cX12_heightsOf 63 = .ok (.iconst 2, 1) := by decide +kernel
theorem dX12_heightsOf_64 : decode cX12_heightsOf 64 = .ok (.iadd, 1) := by decide +kernel
theorem dX12_heightsOf_65 : decode cX12_heightsOf 65 = .ok (.iaload, 1) := by decide +kernel
theorem dX12_heightsOf_66 : decode cX12_heightsOf 66 = .ok (.if_icmp .ne 7, 3) := by decide +kernel
theorem dX12_heightsOf_69 : decode cX12_heightsOf 69 = .ok (.iconst 1, 1) := by decide +kernel
theorem dX12_heightsOf_70 : decode cX12_heightsOf 70 = .ok (.goto 4, 3) := by decide +kernel
theorem dX12_heightsOf_73 : decode cX12_heightsOf 73 = .ok (.iconst 0, 1) := by decide +kernel
theorem dX12_heightsOf_74 : decode cX12_heightsOf 74 = .ok (.istore 4, 2) := by decide +kernel
theorem dX12_heightsOf_76 : decode cX12_heightsOf 76 = .ok (.iinc 5 3, 3) := by decide +kernel
theorem dX12_heightsOf_79 : decode cX12_heightsOf 79 = .ok (.goto (-64), 3) := by decide +kernel
theorem dX12_heightsOf_82 : decode cX12_heightsOf 82 = .ok (.iload_n 2, 1) := by decide +kernel
theorem dX12_heightsOf_83 : decode cX12_heightsOf 83 = .ok (.iload 4, 2) := by decide +kernel
theorem dX12_heightsOf_85 : decode cX12_heightsOf 85 = .ok (.ifCond .eq 11, 3) := by decide +kernel
theorem dX12_heightsOf_88 : decode cX12_heightsOf 88 = .ok (.iconst 1, 1) := by decide +kernel
theorem dX12_heightsOf_89 : decode cX12_heightsOf 89 = .ok (.iload_n 3, 1) := by decide +kernel
theorem dX12_heightsOf_90 : decode cX12_heightsOf 90 = .ok (.iconst 1, 1) := by decide +kernel
theorem dX12_heightsOf_91 : decode cX12_heightsOf 91 = .ok (.isub, 1) := by decide +kernel
theorem dX12_heightsOf_92 : decode cX12_heightsOf 92 = .ok (.ishl, 1) := by decide +kernel
theorem dX12_heightsOf_93 : decode cX12_heightsOf 93 = .ok (.goto 4, 3) := by decide +kernel
theorem dX12_heightsOf_96 : decode cX12_heightsOf 96 = .ok (.iconst 0, 1) := by decide +kernel
theorem dX12_heightsOf_97 : decode cX12_heightsOf 97 = .ok (.ior, 1) := by decide +kernel
theorem dX12_heightsOf_98 : decode cX12_heightsOf 98 = .ok (.istore_n 2, 1) := by decide +kernel
theorem dX12_heightsOf_99 : decode cX12_heightsOf 99 = .ok (.iinc 3 1, 3) := by decide +kernel
theorem dX12_heightsOf_102 : decode cX12_heightsOf 102 = .ok (.goto (-98), 3) := by decide +kernel
theorem dX12_heightsOf_105 : decode cX12_heightsOf 105 = .ok (.iload_n 2, 1) := by decide +kernel
theorem dX12_heightsOf_106 : decode cX12_heightsOf 106 = .ok (.ireturn, 1) := by decide +kernel
set_option maxHeartbeats 4000000 in
set_option maxRecDepth 100000 in
theorem c_X12_heightsOf (l : Launch) (D : va_G) (cy : ClassId) (mo mpage mkeys mvalues mheights mheats msecondKeys msecondValues msecondHeights msecondHeats msaved mbestHeights msights mby mkeptKeys mkeptValues mkeptHeights mkeptHeats mkeptKeys2 mkeptValues2 mkeptHeights2 mkeptHeats2 mkeptSights : Nat) (mo_pageMany : Int32) (mo_law : Int32) (mo_many : Int32) (mo_asked : Int32) (mo_looksAll : Int32) (mo_changes : Int32) (mo_rowsRead : Int32) (mo_secondMany : Int32) (mo_foundAt : Int32) (mo_foundLooks : Int32) (mo_foundLane : Int32) (mo_bestsDone : Int32) (mo_seenMany : Int32) (mo_seedNow : Int32) (mo_keptRow : Int32) (mo_keptMany : Int32) (mo_keptSecond : Int32) (mo_keptAsked : Int32) (mo_keptLooks : Int32) (mo_keptChanges : Int32) (mo_keptSeen : Int32) (mo_hash : Int64) (mkeys_a : Nat → Int32) (mheights_a : Nat → Int32) (msights_a : Nat → Int32) (a : Int32) (g_0 : 0 ≤ mo_pageMany.toInt ∧ mo_pageMany.toInt ≤ 44) (g_1 : 0 ≤ mo_many.toInt ∧ mo_many.toInt ≤ 8) (g_2 : 0 ≤ mo_secondMany.toInt ∧ mo_secondMany.toInt ≤ 8) (g_3 : (-1) ≤ mo_foundAt.toInt ∧ mo_foundAt.toInt ≤ 7) (g_4 : 0 ≤ mo_seenMany.toInt ∧ mo_seenMany.toInt ≤ 6) (g_5 : 0 ≤ mo_keptMany.toInt ∧ mo_keptMany.toInt ≤ 8) (g_6 : 0 ≤ mo_keptSecond.toInt ∧ mo_keptSecond.toInt ≤ 8) (g_7 : 0 ≤ mo_keptSeen.toInt ∧ mo_keptSeen.toInt ≤ 6) (g_8 : 0 ≤ a.toInt ∧ a.toInt ≤ 7) : wk_Ci l yX12_heightsOf cX12_heightsOf 6 (some .int) { frames := 5, cells := 0, slots := 0, locals := 117 } D cy [.ref mo, .int a] [(mo, .inr (12, [.ref mpage, .int mo_pageMany, .int mo_law, .int mo_many, .int mo_asked, .int mo_looksAll, .int mo_changes, .int mo_rowsRead, .ref mkeys, .ref mvalues, .ref mheights, .ref mheats, .int mo_secondMany, .ref msecondKeys, .ref msecondValues, .ref msecondHeights, .ref msecondHeats, .int mo_foundAt, .int mo_foundLooks, .int mo_foundLane, .int mo_bestsDone, .ref msaved, .ref mbestHeights, .int mo_seenMany, .ref msights, .ref mby, .int mo_seedNow, .int mo_keptRow, .int mo_keptMany, .int mo_keptSecond, .int mo_keptAsked, .int mo_keptLooks, .int mo_keptChanges, .int mo_keptSeen, .ref mkeptKeys, .ref mkeptValues, .ref mkeptHeights, .ref mkeptHeats, .ref mkeptKeys2, .ref mkeptValues2, .ref mkeptHeights2, .ref mkeptHeats2, .ref mkeptSights, .long mo_hash])), (mkeys, .inl (cy, 8, .inl mkeys_a)), (mheights, .inl (cy, 8, .inl mheights_a)), (msights, .inl (cy, 18, .inl msights_a))] 0 0 (fun (r : Int32) (u : Int32 × Int32 × Int32) => ((-1) ≤ u.1.toInt ∧ u.1.toInt ≤ 7)) (fun u => [(mo, .inr (12, [.ref mpage, .int mo_pageMany, .int mo_law, .int mo_many, .int mo_asked, .int mo_looksAll, .int mo_changes, .int mo_rowsRead, .ref mkeys, .ref mvalues, .ref mheights, .ref mheats, .int mo_secondMany, .ref msecondKeys, .ref msecondValues, .ref msecondHeights, .ref msecondHeats, .int u.1, .int u.2.1, .int u.2.2, .int mo_bestsDone, .ref msaved, .ref mbestHeights, .int mo_seenMany, .ref msights, .ref mby, .int mo_seedNow, .int mo_keptRow, .int mo_keptMany, .int mo_keptSecond, .int mo_keptAsked, .int mo_keptLooks, .int mo_keptChanges, .int mo_keptSeen, .ref mkeptKeys, .ref mkeptValues, .ref mkeptHeights, .ref mkeptHeats, .ref mkeptKeys2, .ref mkeptValues2, .ref mkeptHeights2, .ref mkeptHeats2, .ref mkeptSights, .long mo_hash])), (mkeys, .inl (cy, 8, .inl mkeys_a)), (mheights, .inl (cy, 8, .inl mheights_a)), (msights, .inl (cy, 18, .inl msights_a))]) := by
  refine wk_mk2Ci (by decide) (Nat.le_of_ble_eq_true rfl) ?_
  intro p e s m args below meth c A ls Q B hA hK hP hD hS hl hret
  obtain ⟨hx, hb, hr, hlocks, hml, hown, htb, hin⟩ := B
  have hl : lv_has ls 6 [(0, .ref mo), (1, .int a)] := hl
  refine lv_iconst (v := 0) hx hb dX12_heightsOf_0 (by decide) ?_
  refine lv_istore_n (lv' := [(2, .int 0), (0, .ref mo), (1, .int a)]) hx hb dX12_heightsOf_1 rfl hl (by decide) rfl (fun ls hl => ?_)
  refine lv_iconst (v := 1) hx hb dX12_heightsOf_2 (by decide) ?_
  refine lv_istore_n (lv' := [(3, .int 1), (2, .int 0), (0, .ref mo), (1, .int a)]) hx hb dX12_heightsOf_3 rfl hl (by decide) rfl (fun ls hl => ?_)
  have hlp_4 : ∀ (fu_4 : Nat) (x2_4 : Int32) (x3_4 : Int32) (mo_foundAt_4 : Int32) (mo_foundLooks_4 : Int32) (mo_foundLane_4 : Int32) (H : Heap) (locs : List Loc) (ls : Array Slot), (1 ≤ x3_4.toInt ∧ x3_4.toInt ≤ 5) → ((-1) ≤ mo_foundAt_4.toInt ∧ mo_foundAt_4.toInt ≤ 7) → 5 - x3_4.toInt < (fu_4 : Int) → va_P D classes [(mo, .inr (12, [.ref mpage, .int mo_pageMany, .int mo_law, .int mo_many, .int mo_asked, .int mo_looksAll, .int mo_changes, .int mo_rowsRead, .ref mkeys, .ref mvalues, .ref mheights, .ref mheats, .int mo_secondMany, .ref msecondKeys, .ref msecondValues, .ref msecondHeights, .ref msecondHeats, .int mo_foundAt_4, .int mo_foundLooks_4, .int mo_foundLane_4, .int mo_bestsDone, .ref msaved, .ref mbestHeights, .int mo_seenMany, .ref msights, .ref mby, .int mo_seedNow, .int mo_keptRow, .int mo_keptMany, .int mo_keptSecond, .int mo_keptAsked, .int mo_keptLooks, .int mo_keptChanges, .int mo_keptSeen, .ref mkeptKeys, .ref mkeptValues, .ref mkeptHeights, .ref mkeptHeats, .ref mkeptKeys2, .ref mkeptValues2, .ref mkeptHeights2, .ref mkeptHeats2, .ref mkeptSights, .long mo_hash])), (mkeys, .inl (cy, 8, .inl mkeys_a)), (mheights, .inl (cy, 8, .inl mheights_a)), (msights, .inl (cy, 18, .inl msights_a))] H → va_D A [(mo, .inr (12, [.ref mpage, .int mo_pageMany, .int mo_law, .int mo_many, .int mo_asked, .int mo_looksAll, .int mo_changes, .int mo_rowsRead, .ref mkeys, .ref mvalues, .ref mheights, .ref mheats, .int mo_secondMany, .ref msecondKeys, .ref msecondValues, .ref msecondHeights, .ref msecondHeats, .int mo_foundAt_4, .int mo_foundLooks_4, .int mo_foundLane_4, .int mo_bestsDone, .ref msaved, .ref mbestHeights, .int mo_seenMany, .ref msights, .ref mby, .int mo_seedNow, .int mo_keptRow, .int mo_keptMany, .int mo_keptSecond, .int mo_keptAsked, .int mo_keptLooks, .int mo_keptChanges, .int mo_keptSeen, .ref mkeptKeys, .ref mkeptValues, .ref mkeptHeights, .ref mkeptHeats, .ref mkeptKeys2, .ref mkeptValues2, .ref mkeptHeights2, .ref mkeptHeats2, .ref mkeptSights, .long mo_hash])), (mkeys, .inl (cy, 8, .inl mkeys_a)), (mheights, .inl (cy, 8, .inl mheights_a)), (msights, .inl (cy, 18, .inl msights_a))] → va_S A s.heap H locs → lv_has ls 6 [(3, .int x3_4), (2, .int x2_4), (0, .ref mo), (1, .int a)] → W p l e { frames := 5, cells := 0, slots := 0, locals := 117 } s m args below meth c H locs 0 0 Q (F0 m 4 ls []) := by
    intro fu_4
    induction fu_4 with
    | zero =>
      intro x2_4 x3_4 mo_foundAt_4 mo_foundLooks_4 mo_foundLane_4 H locs ls hi_4_0 hi_4_1 hm hP hD hS hl
      exfalso; omega
    | succ fu_4 ih_4 =>
      intro x2_4 x3_4 mo_foundAt_4 mo_foundLooks_4 mo_foundLane_4 H locs ls hi_4_0 hi_4_1 hm hP hD hS hl
      refine lv_iload_n hx hb dX12_heightsOf_4 rfl (lv_at hl 0 rfl) ?_
      refine lv_iconst (v := 5) hx hb dX12_heightsOf_5 (by decide) ?_
      refine lv_icmp_ge (tgt := 105) hx hb dX12_heightsOf_6 (by decide) (fun c_1 => ?_) (fun c_1 => ?_)
      · have k_1 : 5 ≤ x3_4.toInt := wk_le c_1
        refine lv_iload_n hx hb dX12_heightsOf_105 rfl (lv_at hl 1 rfl) ?_
        refine W.widen (k := 0) (n := 0) (by decide) (by decide) ?_
        exact hret x2_4 (mo_foundAt_4, mo_foundLooks_4, mo_foundLane_4) _ _ _ 106 (wk_sub9 (is := [0, 1, 2, 3]) hP rfl) (hD.sub [0, 1, 2, 3] rfl rfl) hS dX12_heightsOf_106 (show ((-1) ≤ mo_foundAt_4.toInt ∧ mo_foundAt_4.toInt ≤ 7) from by omega)
      · have k_1 : ¬ 5 ≤ x3_4.toInt := wk_nle c_1
        refine lv_iconst (v := 1) hx hb dX12_heightsOf_9 (by decide) ?_
        refine lv_istore (lv' := [(4, .int 1), (3, .int x3_4), (2, .int x2_4), (0, .ref mo), (1, .int a)]) hx hb dX12_heightsOf_10 hl (by decide) rfl (fun ls hl => ?_)
        refine lv_iconst (v := 0) hx hb dX12_heightsOf_12 (by decide) ?_
        refine lv_istore (lv' := [(5, .int 0), (4, .int 1), (3, .int x3_4), (2, .int x2_4), (0, .ref mo), (1, .int a)]) hx hb dX12_heightsOf_13 hl (by decide) rfl (fun ls hl => ?_)
        have hlp_15 : ∀ (fu_15 : Nat) (x4_15 : Int32) (x5_15 : Int32) (mo_foundAt_15 : Int32) (mo_foundLooks_15 : Int32) (mo_foundLane_15 : Int32) (H : Heap) (locs : List Loc) (ls : Array Slot), (0 ≤ x5_15.toInt ∧ x5_15.toInt ≤ 18) → ((-1) ≤ mo_foundAt_15.toInt ∧ mo_foundAt_15.toInt ≤ 7) → (x5_15.toInt % 3 = 0) → 18 - x5_15.toInt < (fu_15 : Int) → va_P D classes [(mo, .inr (12, [.ref mpage, .int mo_pageMany, .int mo_law, .int mo_many, .int mo_asked, .int mo_looksAll, .int mo_changes, .int mo_rowsRead, .ref mkeys, .ref mvalues, .ref mheights, .ref mheats, .int mo_secondMany, .ref msecondKeys, .ref msecondValues, .ref msecondHeights, .ref msecondHeats, .int mo_foundAt_15, .int mo_foundLooks_15, .int mo_foundLane_15, .int mo_bestsDone, .ref msaved, .ref mbestHeights, .int mo_seenMany, .ref msights, .ref mby, .int mo_seedNow, .int mo_keptRow, .int mo_keptMany, .int mo_keptSecond, .int mo_keptAsked, .int mo_keptLooks, .int mo_keptChanges, .int mo_keptSeen, .ref mkeptKeys, .ref mkeptValues, .ref mkeptHeights, .ref mkeptHeats, .ref mkeptKeys2, .ref mkeptValues2, .ref mkeptHeights2, .ref mkeptHeats2, .ref mkeptSights, .long mo_hash])), (mkeys, .inl (cy, 8, .inl mkeys_a)), (mheights, .inl (cy, 8, .inl mheights_a)), (msights, .inl (cy, 18, .inl msights_a))] H → va_D A [(mo, .inr (12, [.ref mpage, .int mo_pageMany, .int mo_law, .int mo_many, .int mo_asked, .int mo_looksAll, .int mo_changes, .int mo_rowsRead, .ref mkeys, .ref mvalues, .ref mheights, .ref mheats, .int mo_secondMany, .ref msecondKeys, .ref msecondValues, .ref msecondHeights, .ref msecondHeats, .int mo_foundAt_15, .int mo_foundLooks_15, .int mo_foundLane_15, .int mo_bestsDone, .ref msaved, .ref mbestHeights, .int mo_seenMany, .ref msights, .ref mby, .int mo_seedNow, .int mo_keptRow, .int mo_keptMany, .int mo_keptSecond, .int mo_keptAsked, .int mo_keptLooks, .int mo_keptChanges, .int mo_keptSeen, .ref mkeptKeys, .ref mkeptValues, .ref mkeptHeights, .ref mkeptHeats, .ref mkeptKeys2, .ref mkeptValues2, .ref mkeptHeights2, .ref mkeptHeats2, .ref mkeptSights, .long mo_hash])), (mkeys, .inl (cy, 8, .inl mkeys_a)), (mheights, .inl (cy, 8, .inl mheights_a)), (msights, .inl (cy, 18, .inl msights_a))] → va_S A s.heap H locs → lv_has ls 6 [(5, .int x5_15), (4, .int x4_15), (3, .int x3_4), (2, .int x2_4), (0, .ref mo), (1, .int a)] → W p l e { frames := 5, cells := 0, slots := 0, locals := 117 } s m args below meth c H locs 0 0 Q (F0 m 15 ls []) := by
          intro fu_15
          induction fu_15 with
          | zero =>
            intro x4_15 x5_15 mo_foundAt_15 mo_foundLooks_15 mo_foundLane_15 H locs ls hi_15_0 hi_15_1 hi_15_2 hm hP hD hS hl
            exfalso; omega
          | succ fu_15 ih_15 =>
            intro x4_15 x5_15 mo_foundAt_15 mo_foundLooks_15 mo_foundLane_15 H locs ls hi_15_0 hi_15_1 hi_15_2 hm hP hD hS hl
            refine lv_iload hx hb dX12_heightsOf_15 (lv_at hl 0 rfl) ?_
            refine lv_iconst (v := 3) hx hb dX12_heightsOf_17 (by decide) ?_
            refine lv_aload_n hx hb dX12_heightsOf_18 rfl (lv_at hl 4 rfl) ?_
            refine va_get (D := D) (ci := 12) (v := .int mo_seenMany) (C := RX12) (T := TX12) (N := 44) hx hb htb inX12 hown hK hP 0 rfl rfl 23 (by decide) (htb _ tw_786) (fun _ h9 => h9) rfl dX12_heightsOf_19 ?_
            refine lv_imul hx hb dX12_heightsOf_22 ?_
            have k_2 : (3 * mo_seenMany).toInt = 3 * mo_seenMany.toInt := wk_mul 3 mo_seenMany.toInt rfl rfl (by omega) (by omega)
            refine lv_icmp_ge (tgt := 82) hx hb dX12_heightsOf_23 (by decide) (fun c_3 => ?_) (fun c_3 => ?_)
            · have k_3 : (3 * mo_seenMany).toInt ≤ x5_15.toInt := wk_le c_3
              refine lv_iload_n hx hb dX12_heightsOf_82 rfl (lv_at hl 3 rfl) ?_
              refine lv_iload hx hb dX12_heightsOf_83 (lv_at hl 1 rfl) ?_
              refine lv_if_eq (tgt := 96) hx hb dX12_heightsOf_85 (by decide) (fun c_4 => ?_) (fun c_4 => ?_)
              · have k_4 : x4_15.toInt = 0 := wk_eq c_4
                refine lv_iconst (v := 0) hx hb dX12_heightsOf_96 (by decide) ?_
                refine lv_ior hx hb dX12_heightsOf_97 ?_
                refine lv_istore_n (lv' := [(2, .int (x2_4 ||| 0)), (5, .int x5_15), (4, .int x4_15), (3, .int x3_4), (0, .ref mo), (1, .int a)]) hx hb dX12_heightsOf_98 rfl hl (by decide) rfl (fun ls hl => ?_)
                refine lv_iinc (v := (x3_4 + 1)) (lv' := [(3, .int (x3_4 + 1)), (2, .int (x2_4 ||| 0)), (5, .int x5_15), (4, .int x4_15), (0, .ref mo), (1, .int a)]) hx hb dX12_heightsOf_99 hl (k := 3) rfl rfl (by decide) rfl (fun ls hl => ?_)
                have k_5 : (x3_4 + 1).toInt = x3_4.toInt + 1 := wk_add x3_4.toInt 1 rfl rfl (by omega) (by omega)
                refine lv_goto (tgt := 4) hx hb dX12_heightsOf_102 (by decide) ?_
                exact ih_4 (x2_4 ||| 0) (x3_4 + 1) mo_foundAt_15 mo_foundLooks_15 mo_foundLane_15 _ _ _ (show 1 ≤ (x3_4 + 1).toInt ∧ (x3_4 + 1).toInt ≤ 5 from by omega) (show (-1) ≤ mo_foundAt_15.toInt ∧ mo_foundAt_15.toInt ≤ 7 from by omega) (show 5 - (x3_4 + 1).toInt < ((fu_4 : Nat) : Int) from by omega) hP hD hS (lv_sub hl [0, 1, 4, 5] rfl)
              · have k_4 : ¬ x4_15.toInt = 0 := wk_neq c_4
                refine lv_iconst (v := 1) hx hb dX12_heightsOf_88 (by decide) ?_
                refine lv_iload_n hx hb dX12_heightsOf_89 rfl (lv_at hl 2 rfl) ?_
                refine lv_iconst (v := 1) hx hb dX12_heightsOf_90 (by decide) ?_
                refine lv_isub hx hb dX12_heightsOf_91 ?_
                obtain ⟨z_6, ez_6⟩ : ∃ y : Int32, y = (x3_4 - 1) := ⟨_, rfl⟩
                refine wk_toi ez_6.symm ?_
                have k_7 : z_6.toInt = x3_4.toInt - 1 := by rw [ez_6]; exact wk_sub x3_4.toInt 1 rfl rfl (by omega) (by omega)
                refine lv_ishl hx hb dX12_heightsOf_92 ?_
                refine lv_goto (tgt := 97) hx hb dX12_heightsOf_93 (by decide) ?_
                refine lv_ior hx hb dX12_heightsOf_97 ?_
                refine lv_istore_n (lv' := [(2, .int (x2_4 ||| (1 <<< (z_6 &&& 31)))), (5, .int x5_15), (4, .int x4_15), (3, .int x3_4), (0, .ref mo), (1, .int a)]) hx hb dX12_heightsOf_98 rfl hl (by decide) rfl (fun ls hl => ?_)
                refine lv_iinc (v := (x3_4 + 1)) (lv' := [(3, .int (x3_4 + 1)), (2, .int (x2_4 ||| (1 <<< (z_6 &&& 31)))), (5, .int x5_15), (4, .int x4_15), (0, .ref mo), (1, .int a)]) hx hb dX12_heightsOf_99 hl (k := 3) rfl rfl (by decide) rfl (fun ls hl => ?_)
                have k_8 : (x3_4 + 1).toInt = x3_4.toInt + 1 := wk_add x3_4.toInt 1 rfl rfl (by omega) (by omega)
                refine lv_goto (tgt := 4) hx hb dX12_heightsOf_102 (by decide) ?_
                exact ih_4 (x2_4 ||| (1 <<< (z_6 &&& 31))) (x3_4 + 1) mo_foundAt_15 mo_foundLooks_15 mo_foundLane_15 _ _ _ (show 1 ≤ (x3_4 + 1).toInt ∧ (x3_4 + 1).toInt ≤ 5 from by omega) (show (-1) ≤ mo_foundAt_15.toInt ∧ mo_foundAt_15.toInt ≤ 7 from by omega) (show 5 - (x3_4 + 1).toInt < ((fu_4 : Nat) : Int) from by omega) hP hD hS (lv_sub hl [0, 1, 4, 5] rfl)
            · have k_3 : ¬ (3 * mo_seenMany).toInt ≤ x5_15.toInt := wk_nle c_3
              refine lv_aload_n hx hb dX12_heightsOf_26 rfl (lv_at hl 4 rfl) ?_
              refine va_get (D := D) (ci := 12) (v := .ref msights) (C := RX12) (T := TX12) (N := 44) hx hb htb inX12 hown hK hP 0 rfl rfl 24 (by decide) (htb _ tw_787) (fun _ h9 => h9) rfl dX12_heightsOf_27 ?_
              refine lv_iload hx hb dX12_heightsOf_30 (lv_at hl 0 rfl) ?_
              refine va_iald hx hb hK hP 3 0 rfl rfl (show vp_in x5_15 18 from vp_in_iff.mpr (show 0 ≤ x5_15.toInt ∧ x5_15.toInt < ((18 : Nat) : Int) from by omega)) dX12_heightsOf_32 ?_
              refine lv_iload_n hx hb dX12_heightsOf_33 rfl (lv_at hl 5 rfl) ?_
              refine lv_icmp_ne (tgt := 76) hx hb dX12_heightsOf_34 (by decide) (fun c_9 => ?_) (fun c_9 => ?_)
              · have k_9 : ¬ (msights_a x5_15.toNatClampNeg).toInt = a.toInt := wk_neq c_9
                refine lv_iinc (v := (x5_15 + 3)) (lv' := [(5, .int (x5_15 + 3)), (4, .int x4_15), (3, .int x3_4), (2, .int x2_4), (0, .ref mo), (1, .int a)]) hx hb dX12_heightsOf_76 hl (k := 0) rfl rfl (by decide) rfl (fun ls hl => ?_)
                have k_10 : (x5_15 + 3).toInt = x5_15.toInt + 3 := wk_add x5_15.toInt 3 rfl rfl (by omega) (by omega)
                refine lv_goto (tgt := 15) hx hb dX12_heightsOf_79 (by decide) ?_
                exact ih_15 x4_15 (x5_15 + 3) mo_foundAt_15 mo_foundLooks_15 mo_foundLane_15 _ _ _ (show 0 ≤ (x5_15 + 3).toInt ∧ (x5_15 + 3).toInt ≤ 18 from by omega) (show (-1) ≤ mo_foundAt_15.toInt ∧ mo_foundAt_15.toInt ≤ 7 from by omega) (show (x5_15 + 3).toInt % 3 = 0 from by omega) (show 18 - (x5_15 + 3).toInt < ((fu_15 : Nat) : Int) from by omega) hP hD hS (lv_sub hl [0, 1, 2, 3, 4, 5] rfl)
              · have k_9 : (msights_a x5_15.toNatClampNeg).toInt = a.toInt := wk_eq c_9
                refine lv_iload hx hb dX12_heightsOf_37 (lv_at hl 1 rfl) ?_
                refine lv_if_eq (tgt := 73) hx hb dX12_heightsOf_39 (by decide) (fun c_11 => ?_) (fun c_11 => ?_)
                · have k_11 : x4_15.toInt = 0 := wk_eq c_11
                  refine lv_iconst (v := 0) hx hb dX12_heightsOf_73 (by decide) ?_
                  refine lv_istore (lv' := [(4, .int 0), (5, .int x5_15), (3, .int x3_4), (2, .int x2_4), (0, .ref mo), (1, .int a)]) hx hb dX12_heightsOf_74 hl (by decide) rfl (fun ls hl => ?_)
                  refine lv_iinc (v := (x5_15 + 3)) (lv' := [(5, .int (x5_15 + 3)), (4, .int 0), (3, .int x3_4), (2, .int x2_4), (0, .ref mo), (1, .int a)]) hx hb dX12_heightsOf_76 hl (k := 1) rfl rfl (by decide) rfl (fun ls hl => ?_)
                  have k_12 : (x5_15 + 3).toInt = x5_15.toInt + 3 := wk_add x5_15.toInt 3 rfl rfl (by omega) (by omega)
                  refine lv_goto (tgt := 15) hx hb dX12_heightsOf_79 (by decide) ?_
                  exact ih_15 0 (x5_15 + 3) mo_foundAt_15 mo_foundLooks_15 mo_foundLane_15 _ _ _ (show 0 ≤ (x5_15 + 3).toInt ∧ (x5_15 + 3).toInt ≤ 18 from by omega) (show (-1) ≤ mo_foundAt_15.toInt ∧ mo_foundAt_15.toInt ≤ 7 from by omega) (show (x5_15 + 3).toInt % 3 = 0 from by omega) (show 18 - (x5_15 + 3).toInt < ((fu_15 : Nat) : Int) from by omega) hP hD hS (lv_sub hl [0, 1, 2, 3, 4, 5] rfl)
                · have k_11 : ¬ x4_15.toInt = 0 := wk_neq c_11
                  refine lv_aload_n hx hb dX12_heightsOf_42 rfl (lv_at hl 4 rfl) ?_
                  refine lv_iload_n hx hb dX12_heightsOf_43 rfl (lv_at hl 5 rfl) ?_
                  refine lv_iload_n hx hb dX12_heightsOf_44 rfl (lv_at hl 2 rfl) ?_
                  refine lv_aload_n hx hb dX12_heightsOf_45 rfl (lv_at hl 4 rfl) ?_
                  refine va_get (D := D) (ci := 12) (v := .ref msights) (C := RX12) (T := TX12) (N := 44) hx hb htb inX12 hown hK hP 0 rfl rfl 24 (by decide) (htb _ tw_787) (fun _ h9 => h9) rfl dX12_heightsOf_46 ?_
                  refine lv_iload hx hb dX12_heightsOf_49 (lv_at hl 0 rfl) ?_
                  refine lv_iconst (v := 1) hx hb dX12_heightsOf_51 (by decide) ?_
                  refine lv_iadd hx hb dX12_heightsOf_52 ?_
                  have k_13 : (x5_15 + 1).toInt = x5_15.toInt + 1 := wk_add x5_15.toInt 1 rfl rfl (by omega) (by omega)
                  refine va_iald hx hb hK hP 3 0 rfl rfl (show vp_in (x5_15 + 1) 18 from vp_in_iff.mpr (show 0 ≤ (x5_15 + 1).toInt ∧ (x5_15 + 1).toInt < ((18 : Nat) : Int) from by omega)) dX12_heightsOf_53 ?_
                  refine wk_iV (As := [.int a, .int x3_4, .int (msights_a (x5_15 + 1).toNatClampNeg)]) (rest := []) (wc := [(mo, .inr (12, [.ref mpage, .int mo_pageMany, .int mo_law, .int mo_many, .int mo_asked, .int mo_looksAll, .int mo_changes, .int mo_rowsRead, .ref mkeys, .ref mvalues, .ref mheights, .ref mheats, .int mo_secondMany, .ref msecondKeys, .ref msecondValues, .ref msecondHeights, .ref msecondHeats, .int mo_foundAt_15, .int mo_foundLooks_15, .int mo_foundLane_15, .int mo_bestsDone, .ref msaved, .ref mbestHeights, .int mo_seenMany, .ref msights, .ref mby, .int mo_seedNow, .int mo_keptRow, .int mo_keptMany, .int mo_keptSecond, .int mo_keptAsked, .int mo_keptLooks, .int mo_keptChanges, .int mo_keptSeen, .ref mkeptKeys, .ref mkeptValues, .ref mkeptHeights, .ref mkeptHeats, .ref mkeptKeys2, .ref mkeptValues2, .ref mkeptHeights2, .ref mkeptHeats2, .ref mkeptSights, .long mo_hash])), (mkeys, .inl (cy, 8, .inl mkeys_a)), (mheights, .inl (cy, 8, .inl mheights_a))]) (wr := [(msights, .inl (cy, 18, .inl msights_a))]) (n := 3) ⟨hx, hb, hml, hown, htb⟩ (c_X12_looksIf l D cy mo mpage mkeys mvalues mheights mheats msecondKeys msecondValues msecondHeights msecondHeats msaved mbestHeights msights mby mkeptKeys mkeptValues mkeptHeights mkeptHeats mkeptKeys2 mkeptValues2 mkeptHeights2 mkeptHeats2 mkeptSights mo_pageMany mo_law mo_many mo_asked mo_looksAll mo_changes mo_rowsRead mo_secondMany mo_foundAt_15 mo_foundLooks_15 mo_foundLane_15 mo_bestsDone mo_seenMany mo_seedNow mo_keptRow mo_keptMany mo_keptSecond mo_keptAsked mo_keptLooks mo_keptChanges mo_keptSeen mo_hash mkeys_a mheights_a a x3_4 (msights_a (x5_15 + 1).toNatClampNeg) (show 0 ≤ mo_pageMany.toInt ∧ mo_pageMany.toInt ≤ 44 from by omega) (show 0 ≤ mo_many.toInt ∧ mo_many.toInt ≤ 8 from by omega) (show 0 ≤ mo_secondMany.toInt ∧ mo_secondMany.toInt ≤ 8 from by omega) (show (-1) ≤ mo_foundAt_15.toInt ∧ mo_foundAt_15.toInt ≤ 7 from by omega) (show 0 ≤ mo_seenMany.toInt ∧ mo_seenMany.toInt ≤ 6 from by omega) (show 0 ≤ mo_keptMany.toInt ∧ mo_keptMany.toInt ≤ 8 from by omega) (show 0 ≤ mo_keptSecond.toInt ∧ mo_keptSecond.toInt ≤ 8 from by omega) (show 0 ≤ mo_keptSeen.toInt ∧ mo_keptSeen.toInt ≤ 6 from by omega) (show 0 ≤ a.toInt ∧ a.toInt ≤ 7 from by omega)) tw_1046 tw_1043 tw_1045 tw_42 tw_71 rfl rfl (by decide +kernel) ⟨Nat.le_of_ble_eq_true rfl, Nat.le_of_ble_eq_true rfl⟩ hK hP hD hS hA [0, 1, 2] [3] rfl rfl rfl rfl (by decide) 0 (ci := 12) rfl rfl rfl hl.1 rfl (Nat.le_of_ble_eq_true rfl) dX12_heightsOf_54 ⟨Nat.le_of_ble_eq_true rfl, Nat.le_of_ble_eq_true rfl⟩ (fun r_14 u_15 H locs hw_16 hP hD hS => ?_)
                  refine W.widen (k := 0) (n := 0) (by decide) (by decide) ?_
                  obtain ⟨o_17, o_18, o_19⟩ := u_15
                  obtain ⟨hw_16, k_20⟩ := hw_16
                  have hw_16 : (r_14, o_17, o_18, o_19) = (fn_X12_looksIf mo_many mo_foundAt_15 mo_foundLooks_15 mo_foundLane_15 mkeys_a mheights_a a x3_4 (msights_a (x5_15 + 1).toNatClampNeg)) := hw_16
                  have k_20 : ((-1) ≤ o_17.toInt ∧ o_17.toInt ≤ 7) := k_20
                  have hP : va_P D classes [(msights, .inl (cy, 18, .inl msights_a)), (mo, .inr (12, [.ref mpage, .int mo_pageMany, .int mo_law, .int mo_many, .int mo_asked, .int mo_looksAll, .int mo_changes, .int mo_rowsRead, .ref mkeys, .ref mvalues, .ref mheights, .ref mheats, .int mo_secondMany, .ref msecondKeys, .ref msecondValues, .ref msecondHeights, .ref msecondHeats, .int o_17, .int o_18, .int o_19, .int mo_bestsDone, .ref msaved, .ref mbestHeights, .int mo_seenMany, .ref msights, .ref mby, .int mo_seedNow, .int mo_keptRow, .int mo_keptMany, .int mo_keptSecond, .int mo_keptAsked, .int mo_keptLooks, .int mo_keptChanges, .int mo_keptSeen, .ref mkeptKeys, .ref mkeptValues, .ref mkeptHeights, .ref mkeptHeats, .ref mkeptKeys2, .ref mkeptValues2, .ref mkeptHeights2, .ref mkeptHeats2, .ref mkeptSights, .long mo_hash])), (mkeys, .inl (cy, 8, .inl mkeys_a)), (mheights, .inl (cy, 8, .inl mheights_a))] H := hP
                  have hD : va_D A [(msights, .inl (cy, 18, .inl msights_a)), (mo, .inr (12, [.ref mpage, .int mo_pageMany, .int mo_law, .int mo_many, .int mo_asked, .int mo_looksAll, .int mo_changes, .int mo_rowsRead, .ref mkeys, .ref mvalues, .ref mheights, .ref mheats, .int mo_secondMany, .ref msecondKeys, .ref msecondValues, .ref msecondHeights, .ref msecondHeats, .int o_17, .int o_18, .int o_19, .int mo_bestsDone, .ref msaved, .ref mbestHeights, .int mo_seenMany, .ref msights, .ref mby, .int mo_seedNow, .int mo_keptRow, .int mo_keptMany, .int mo_keptSecond, .int mo_keptAsked, .int mo_keptLooks, .int mo_keptChanges, .int mo_keptSeen, .ref mkeptKeys, .ref mkeptValues, .ref mkeptHeights, .ref mkeptHeats, .ref mkeptKeys2, .ref mkeptValues2, .ref mkeptHeights2, .ref mkeptHeats2, .ref mkeptSights, .long mo_hash])), (mkeys, .inl (cy, 8, .inl mkeys_a)), (mheights, .inl (cy, 8, .inl mheights_a))] := hD
                  refine lv_aload_n hx hb dX12_heightsOf_57 rfl (lv_at hl 4 rfl) ?_
                  refine va_get (D := D) (ci := 12) (v := .ref msights) (C := RX12) (T := TX12) (N := 44) hx hb htb inX12 hown hK hP 1 rfl rfl 24 (by decide) (htb _ tw_787) (fun _ h9 => h9) rfl dX12_heightsOf_58 ?_
                  refine lv_iload hx hb dX12_heightsOf_61 (lv_at hl 0 rfl) ?_
                  refine lv_iconst (v := 2) hx hb dX12_heightsOf_63 (by decide) ?_
                  refine lv_iadd hx hb dX12_heightsOf_64 ?_
                  have k_21 : (x5_15 + 2).toInt = x5_15.toInt + 2 := wk_add x5_15.toInt 2 rfl rfl (by omega) (by omega)
                  refine va_iald hx hb hK hP 0 0 rfl rfl (show vp_in (x5_15 + 2) 18 from vp_in_iff.mpr (show 0 ≤ (x5_15 + 2).toInt ∧ (x5_15 + 2).toInt < ((18 : Nat) : Int) from by omega)) dX12_heightsOf_65 ?_
                  refine lv_icmp_ne (tgt := 73) hx hb dX12_heightsOf_66 (by decide) (fun c_22 => ?_) (fun c_22 => ?_)
                  · have k_22 : ¬ r_14.toInt = (msights_a (x5_15 + 2).toNatClampNeg).toInt := wk_neq c_22
                    refine lv_iconst (v := 0) hx hb dX12_heightsOf_73 (by decide) ?_
                    refine lv_istore (lv' := [(4, .int 0), (5, .int x5_15), (3, .int x3_4), (2, .int x2_4), (0, .ref mo), (1, .int a)]) hx hb dX12_heightsOf_74 hl (by decide) rfl (fun ls hl => ?_)
                    refine lv_iinc (v := (x5_15 + 3)) (lv' := [(5, .int (x5_15 + 3)), (4, .int 0), (3, .int x3_4), (2, .int x2_4), (0, .ref mo), (1, .int a)]) hx hb dX12_heightsOf_76 hl (k := 1) rfl rfl (by decide) rfl (fun ls hl => ?_)
                    have k_23 : (x5_15 + 3).toInt = x5_15.toInt + 3 := wk_add x5_15.toInt 3 rfl rfl (by omega) (by omega)
                    refine lv_goto (tgt := 15) hx hb dX12_heightsOf_79 (by decide) ?_
                    exact ih_15 0 (x5_15 + 3) o_17 o_18 o_19 _ _ _ (show 0 ≤ (x5_15 + 3).toInt ∧ (x5_15 + 3).toInt ≤ 18 from by omega) (show (-1) ≤ o_17.toInt ∧ o_17.toInt ≤ 7 from by omega) (show (x5_15 + 3).toInt % 3 = 0 from by omega) (show 18 - (x5_15 + 3).toInt < ((fu_15 : Nat) : Int) from by omega) (wk_sub9 (is := [1, 2, 3, 0]) hP rfl) (hD.sub [1, 2, 3, 0] rfl rfl) hS (lv_sub hl [0, 1, 2, 3, 4, 5] rfl)
                  · have k_22 : r_14.toInt = (msights_a (x5_15 + 2).toNatClampNeg).toInt := wk_eq c_22
                    refine lv_iconst (v := 1) hx hb dX12_heightsOf_69 (by decide) ?_
                    refine lv_goto (tgt := 74) hx hb dX12_heightsOf_70 (by decide) ?_
                    refine lv_istore (lv' := [(4, .int 1), (5, .int x5_15), (3, .int x3_4), (2, .int x2_4), (0, .ref mo), (1, .int a)]) hx hb dX12_heightsOf_74 hl (by decide) rfl (fun ls hl => ?_)
                    refine lv_iinc (v := (x5_15 + 3)) (lv' := [(5, .int (x5_15 + 3)), (4, .int 1), (3, .int x3_4), (2, .int x2_4), (0, .ref mo), (1, .int a)]) hx hb dX12_heightsOf_76 hl (k := 1) rfl rfl (by decide) rfl (fun ls hl => ?_)
                    have k_24 : (x5_15 + 3).toInt = x5_15.toInt + 3 := wk_add x5_15.toInt 3 rfl rfl (by omega) (by omega)
                    refine lv_goto (tgt := 15) hx hb dX12_heightsOf_79 (by decide) ?_
                    exact ih_15 1 (x5_15 + 3) o_17 o_18 o_19 _ _ _ (show 0 ≤ (x5_15 + 3).toInt ∧ (x5_15 + 3).toInt ≤ 18 from by omega) (show (-1) ≤ o_17.toInt ∧ o_17.toInt ≤ 7 from by omega) (show (x5_15 + 3).toInt % 3 = 0 from by omega) (show 18 - (x5_15 + 3).toInt < ((fu_15 : Nat) : Int) from by omega) (wk_sub9 (is := [1, 2, 3, 0]) hP rfl) (hD.sub [1, 2, 3, 0] rfl rfl) hS (lv_sub hl [0, 1, 2, 3, 4, 5] rfl)
        exact hlp_15 20 1 0 mo_foundAt_4 mo_foundLooks_4 mo_foundLane_4 _ _ _ (show 0 ≤ 0 ∧ 0 ≤ 18 from by omega) (show (-1) ≤ mo_foundAt_4.toInt ∧ mo_foundAt_4.toInt ≤ 7 from by omega) (show 0 % 3 = 0 from by omega) (show 18 - 0 < ((20 : Nat) : Int) from by omega) hP hD hS (lv_sub hl [0, 1, 2, 3, 4, 5] rfl)
  exact hlp_4 6 0 1 mo_foundAt mo_foundLooks mo_foundLane _ _ _ (show 1 ≤ 1 ∧ 1 ≤ 5 from by omega) (show (-1) ≤ mo_foundAt.toInt ∧ mo_foundAt.toInt ≤ 7 from by omega) (show 5 - 1 < ((6 : Nat) : Int) from by omega) hP hD hS (lv_sub hl [0, 1, 2, 3] rfl)
theorem dX12_worstBy_0 : decode cX12_worstBy 0 = .ok (.iconst 1, 1) := by decide +kernel
theorem dX12_worstBy_1 : decode cX12_worstBy 1 = .ok (.istore 4, 2) := by decide +kernel
theorem dX12_worstBy_3 : decode cX12_worstBy 3 = .ok (.iload 4, 2) := by decide +kernel
theorem dX12_worstBy_5 : decode cX12_worstBy 5 = .ok (.iconst 5, 1) := by decide +kernel
theorem dX12_worstBy_6 : decode cX12_worstBy 6 = .ok (.if_icmp .ge 24, 3) := by decide +kernel
theorem dX12_worstBy_9 : decode cX12_worstBy 9 = .ok (.aload_n 0, 1) := by decide +kernel
theorem dX12_worstBy_10 : decode cX12_worstBy 10 = .ok (.getfield 46, 3) := by decide +kernel
theorem dX12_worstBy_13 : decode cX12_worstBy 13 = .ok (.iload 4, 2) := by decide +kernel
theorem dX12_worstBy_15 : decode cX12_worstBy 15 = .ok (.aload_n 0, 1) := by decide +kernel
theorem dX12_worstBy_16 : decode cX12_worstBy 16 = .ok (.iload_n 1, 1) := by decide +kernel
theorem dX12_worstBy_17 : decode cX12_worstBy 17 = .ok (.iload 4, 2) := by decide +kernel
theorem dX12_worstBy_19 : decode cX12_worstBy 19 = .ok (.iload_n 3, 1) := by decide +kernel
theorem dX12_worstBy_20 : decode cX12_worstBy 20 = .ok (.invokevirtual 282, 3) := by decide +kernel
theorem dX12_worstBy_23 : decode cX12_worstBy 23 = .ok (.iastore, 1) := by decide +kernel
theorem dX12_worstBy_24 : decode cX12_worstBy 24 = .ok (.iinc 4 1, 3) := by decide +kernel
theorem dX12_worstBy_27 : decode cX12_worstBy 27 = .ok (.goto (-24), 3) := by decide +kernel
theorem dX12_worstBy_30 : decode cX12_worstBy 30 = .ok (.iconst 0, 1) := by decide +kernel
theorem dX12_worstBy_31 : decode cX12_worstBy 31 = .ok (.istore 4, 2) := by decide +kernel
theorem dX12_worstBy_33 : decode cX12_worstBy 33 = .ok (.iconst 1, 1) := by decide +kernel
theorem dX12_worstBy_34 : decode cX12_worstBy 34 = .ok (.istore 5, 2) := by decide +kernel
theorem dX12_worstBy_36 : decode cX12_worstBy 36 = .ok (.iload 5, 2) := by decide +kernel
theorem dX12_worstBy_38 : decode cX12_worstBy 38 = .ok (.iconst 5, 1) := by decide +kernel
theorem dX12_worstBy_39 : decode cX12_worstBy 39 = .ok (.if_icmp .ge 89, 3) := by decide +kernel
theorem dX12_worstBy_42 : decode cX12_worstBy 42 = .ok (.iconst 0, 1) := by decide +kernel
theorem dX12_worstBy_43 : decode cX12_worstBy 43 = .ok (.istore 6, 2) := by decide +kernel
theorem dX12_worstBy_45 : decode cX12_worstBy 45 = .ok (.iconst 1, 1) := by decide +kernel
theorem dX12_worstBy_46 : decode cX12_worstBy 46 = .ok (.istore 7, 2) := by decide +kernel
theorem dX12_worstBy_48 : decode cX12_worstBy 48 = .ok (.iload 7, 2) := by decide +kernel
theorem dX12_worstBy_50 : decode cX12_worstBy 50 = .ok (.iconst 5, 1) := by decide +kernel
theorem dX12_worstBy_51 : decode cX12_worstBy 51 = .ok (.if_icmp .ge 43, 3) := by decide +kernel
theorem dX12_worstBy_54 : decode cX12_worstBy 54 = .ok (.iload 6, 2) := by decide +kernel
theorem dX12_worstBy_56 : decode cX12_worstBy 56 = .ok (.aload_n 0, 1) := by decide +kernel
theorem dX12_worstBy_57 : decode cX12_worstBy 57 = .ok (.getfield 46, 3) := by decide +kernel
theorem dX12_worstBy_60 : decode cX12_worstBy 60 = .ok (.iload 7, 2) := by decide +kernel
theorem dX12_worstBy_62 : decode cX12_worstBy 62 = .ok (.iaload, 1) := by decide +kernel
theorem dX12_worstBy_63 : decode cX12_worstBy 63 = .ok (.aload_n 0, 1) := by decide +kernel
theorem dX12_worstBy_64 : decode cX12_worstBy 64 = .ok (.getfield 46, 3) := by decide +kernel
theorem dX12_worstBy_67 : decode cX12_worstBy 67 = .ok (.iload 5, 2) := by decide +kernel
theorem dX12_worstBy_69 : decode cX12_worstBy 69 = .ok (.iaload, 1) := by decide +kernel
theorem dX12_worstBy_70 : decode cX12_worstBy 70 = .ok (.if_icmp .ne 14, 3) := by decide +kernel
theorem dX12_worstBy_73 : decode cX12_worstBy 73 = .ok (.iload_n 2, 1) := by decide +kernel
theorem dX12_worstBy_74 : decode cX12_worstBy 74 = .ok (.iload 7, 2) := by decide +kernel
theorem dX12_worstBy_76 : decode cX12_worstBy 76 = .ok (.iconst 1, 1) := by decide +kernel
theorem dX12_worstBy_77 : decode cX12_worstBy 77 = .ok (.isub, 1) := by decide +kernel
theorem dX12_worstBy_78 : decode cX12_worstBy 78 = .ok (.ishr, 1) := by decide +kernel
theorem dX12_worstBy_79 : decode cX12_worstBy 79 = .ok (.iconst 1, 1) := by decide +kernel
theorem dX12_worstBy_80 : decode cX12_worstBy 80 = .ok (.iand, 1) := by decide +kernel
theorem dX12_worstBy_81 : decode cX12_worstBy 81 = .ok (.goto 4, 3) := by decide +kernel
theorem dX12_worstBy_84 : decode cX12_worstBy 84 = .ok (.iconst 0, 1) := by decide +kernel
theorem dX12_worstBy_85 : decode cX12_worstBy 85 = .ok (.iadd, 1) := by decide +kernel
theorem dX12_worstBy_86 : decode cX12_worstBy 86 = .ok (.istore 6, 2) := by decide +kernel
theorem dX12_worstBy_88 : decode cX12_worstBy 88 = .ok (.iinc 7 1, 3) := by decide +kernel
theorem dX12_worstBy_91 : decode cX12_worstBy 91 = .ok (.goto (-43), 3) := by decide +kernel
theorem dX12_worstBy_94 : decode cX12_worstBy 94 = .ok (.iload_n 2, 1) := by decide +kernel
theorem dX12_worstBy_95 : decode cX12_worstBy 95 = .ok (.iload 5, 2) := by decide +kernel
theorem dX12_worstBy_97 : decode cX12_worstBy 97 = .ok (.iconst 1, 1) := by decide +kernel
theorem dX12_worstBy_98 : decode cX12_worstBy 98 = .ok (.isub, 1) := by decide +kernel
theorem dX12_worstBy_99 : decode cX12_worstBy 99 = .ok (.ishr, 1) := by decide +kernel
theorem dX12_worstBy_100 : decode cX12_worstBy 100 = .ok (.iconst 1, 1) := by decide +kernel
theorem dX12_worstBy_101 : decode cX12_worstBy 101 = .ok (.iand, 1) := by decide +kernel
theorem dX12_worstBy_102 : decode cX12_worstBy 102 = .ok (.iconst 1, 1) := by decide +kernel
theorem dX12_worstBy_103 : decode cX12_worstBy 103 = .ok (.if_icmp .ne 15, 3) := by decide +kernel
theorem dX12_worstBy_106 : decode cX12_worstBy 106 = .ok (.iload 6, 2) := by decide +kernel
theorem dX12_worstBy_108 : decode cX12_worstBy 108 = .ok (.iload 4, 2) := by decide +kernel
theorem dX12_worstBy_110 : decode cX12_worstBy 110 = .ok (.if_icmp .le 8, 3) := by decide +kernel
theorem dX12_worstBy_113 : decode cX12_worstBy 113 = .ok (.iload 6, 2) := by decide +kernel
theorem dX12_worstBy_115 : decode cX12_worstBy 115 = .ok (.goto 5, 3) := by decide +kernel
theorem dX12_worstBy_118 : decode cX12_worstBy 118 = .ok (.iload 4, 2) := by decide +kernel
theorem dX12_worstBy_120 : decode cX12_worstBy 120 = .ok (.istore 4, 2) := by decide +kernel
theorem dX12_worstBy_122 : decode cX12_worstBy 122 = .ok (.iinc 5 1, 3) := by decide +kernel
theorem dX12_worstBy_125 : decode cX12_worstBy 125 = .ok (.goto (-89), 3) := by decide +kernel
theorem dX12_worstBy_128 : decode cX12_worstBy 128 = .ok (.iload 4, 2) := by decide +kernel
theorem dX12_worstBy_130 : decode cX12_worstBy 130 = .ok (.ireturn, 1) := by decide +kernel
set_option maxHeartbeats 4000000 in
set_option maxRecDepth 100000 in
theorem c_X12_worstBy (l : Launch) (D : va_G) (cy : ClassId) (mo mpage mkeys mvalues mheights mheats msecondKeys msecondValues msecondHeights msecondHeats msaved mbestHeights msights mby mkeptKeys mkeptValues mkeptHeights mkeptHeats mkeptKeys2 mkeptValues2 mkeptHeights2 mkeptHeats2 mkeptSights : Nat) (mo_pageMany : Int32) (mo_law : Int32) (mo_many : Int32) (mo_asked : Int32) (mo_looksAll : Int32) (mo_changes : Int32) (mo_rowsRead : Int32) (mo_secondMany : Int32) (mo_foundAt : Int32) (mo_foundLooks : Int32) (mo_foundLane : Int32) (mo_bestsDone : Int32) (mo_seenMany : Int32) (mo_seedNow : Int32) (mo_keptRow : Int32) (mo_keptMany : Int32) (mo_keptSecond : Int32) (mo_keptAsked : Int32) (mo_keptLooks : Int32) (mo_keptChanges : Int32) (mo_keptSeen : Int32) (mo_hash : Int64) (mkeys_a : Nat → Int32) (mheights_a : Nat → Int32) (mby_a : Nat → Int32) (a : Int32) (b : Int32) (d : Int32) (g_0 : 0 ≤ mo_pageMany.toInt ∧ mo_pageMany.toInt ≤ 44) (g_1 : 0 ≤ mo_many.toInt ∧ mo_many.toInt ≤ 8) (g_2 : 0 ≤ mo_secondMany.toInt ∧ mo_secondMany.toInt ≤ 8) (g_3 : (-1) ≤ mo_foundAt.toInt ∧ mo_foundAt.toInt ≤ 7) (g_4 : 0 ≤ mo_seenMany.toInt ∧ mo_seenMany.toInt ≤ 6) (g_5 : 0 ≤ mo_keptMany.toInt ∧ mo_keptMany.toInt ≤ 8) (g_6 : 0 ≤ mo_keptSecond.toInt ∧ mo_keptSecond.toInt ≤ 8) (g_7 : 0 ≤ mo_keptSeen.toInt ∧ mo_keptSeen.toInt ≤ 6) (g_8 : 0 ≤ a.toInt ∧ a.toInt ≤ 7) : wk_Ci l yX12_worstBy cX12_worstBy 8 (some .int) { frames := 5, cells := 0, slots := 0, locals := 117 } D cy [.ref mo, .int a, .int b, .int d] [(mo, .inr (12, [.ref mpage, .int mo_pageMany, .int mo_law, .int mo_many, .int mo_asked, .int mo_looksAll, .int mo_changes, .int mo_rowsRead, .ref mkeys, .ref mvalues, .ref mheights, .ref mheats, .int mo_secondMany, .ref msecondKeys, .ref msecondValues, .ref msecondHeights, .ref msecondHeats, .int mo_foundAt, .int mo_foundLooks, .int mo_foundLane, .int mo_bestsDone, .ref msaved, .ref mbestHeights, .int mo_seenMany, .ref msights, .ref mby, .int mo_seedNow, .int mo_keptRow, .int mo_keptMany, .int mo_keptSecond, .int mo_keptAsked, .int mo_keptLooks, .int mo_keptChanges, .int mo_keptSeen, .ref mkeptKeys, .ref mkeptValues, .ref mkeptHeights, .ref mkeptHeats, .ref mkeptKeys2, .ref mkeptValues2, .ref mkeptHeights2, .ref mkeptHeats2, .ref mkeptSights, .long mo_hash])), (mkeys, .inl (cy, 8, .inl mkeys_a)), (mheights, .inl (cy, 8, .inl mheights_a)), (mby, .inl (cy, 5, .inl mby_a))] 0 0 (fun (r : Int32) (u : Int32 × Int32 × Int32 × (Nat → Int32)) => ((-1) ≤ u.1.toInt ∧ u.1.toInt ≤ 7)) (fun u => [(mo, .inr (12, [.ref mpage, .int mo_pageMany, .int mo_law, .int mo_many, .int mo_asked, .int mo_looksAll, .int mo_changes, .int mo_rowsRead, .ref mkeys, .ref mvalues, .ref mheights, .ref mheats, .int mo_secondMany, .ref msecondKeys, .ref msecondValues, .ref msecondHeights, .ref msecondHeats, .int u.1, .int u.2.1, .int u.2.2.1, .int mo_bestsDone, .ref msaved, .ref mbestHeights, .int mo_seenMany, .ref msights, .ref mby, .int mo_seedNow, .int mo_keptRow, .int mo_keptMany, .int mo_keptSecond, .int mo_keptAsked, .int mo_keptLooks, .int mo_keptChanges, .int mo_keptSeen, .ref mkeptKeys, .ref mkeptValues, .ref mkeptHeights, .ref mkeptHeats, .ref mkeptKeys2, .ref mkeptValues2, .ref mkeptHeights2, .ref mkeptHeats2, .ref mkeptSights, .long mo_hash])), (mkeys, .inl (cy, 8, .inl mkeys_a)), (mheights, .inl (cy, 8, .inl mheights_a)), (mby, .inl (cy, 5, .inl u.2.2.2))]) := by
  refine wk_mk2Ci (by decide) (Nat.le_of_ble_eq_true rfl) ?_
  intro p e s m args below meth c A ls Q B hA hK hP hD hS hl hret
  obtain ⟨hx, hb, hr, hlocks, hml, hown, htb, hin⟩ := B
  have hl : lv_has ls 8 [(0, .ref mo), (1, .int a), (2, .int b), (3, .int d)] := hl
  refine lv_iconst (v := 1) hx hb dX12_worstBy_0 (by decide) ?_
  refine lv_istore (lv' := [(4, .int 1), (0, .ref mo), (1, .int a), (2, .int b), (3, .int d)]) hx hb dX12_worstBy_1 hl (by decide) rfl (fun ls hl => ?_)
  have hlp_3 : ∀ (fu_3 : Nat) (x4_3 : Int32) (mo_foundAt_3 : Int32) (mo_foundLooks_3 : Int32) (mo_foundLane_3 : Int32) (mby_a_3 : Nat → Int32) (H : Heap) (locs : List Loc) (ls : Array Slot), (1 ≤ x4_3.toInt ∧ x4_3.toInt ≤ 5) → ((-1) ≤ mo_foundAt_3.toInt ∧ mo_foundAt_3.toInt ≤ 7) → 5 - x4_3.toInt < (fu_3 : Int) → va_P D classes [(mo, .inr (12, [.ref mpage, .int mo_pageMany, .int mo_law, .int mo_many, .int mo_asked, .int mo_looksAll, .int mo_changes, .int mo_rowsRead, .ref mkeys, .ref mvalues, .ref mheights, .ref mheats, .int mo_secondMany, .ref msecondKeys, .ref msecondValues, .ref msecondHeights, .ref msecondHeats, .int mo_foundAt_3, .int mo_foundLooks_3, .int mo_foundLane_3, .int mo_bestsDone, .ref msaved, .ref mbestHeights, .int mo_seenMany, .ref msights, .ref mby, .int mo_seedNow, .int mo_keptRow, .int mo_keptMany, .int mo_keptSecond, .int mo_keptAsked, .int mo_keptLooks, .int mo_keptChanges, .int mo_keptSeen, .ref mkeptKeys, .ref mkeptValues, .ref mkeptHeights, .ref mkeptHeats, .ref mkeptKeys2, .ref mkeptValues2, .ref mkeptHeights2, .ref mkeptHeats2, .ref mkeptSights, .long mo_hash])), (mkeys, .inl (cy, 8, .inl mkeys_a)), (mheights, .inl (cy, 8, .inl mheights_a)), (mby, .inl (cy, 5, .inl mby_a_3))] H → va_D A [(mo, .inr (12, [.ref mpage, .int mo_pageMany, .int mo_law, .int mo_many, .int mo_asked, .int mo_looksAll, .int mo_changes, .int mo_rowsRead, .ref mkeys, .ref mvalues, .ref mheights, .ref mheats, .int mo_secondMany, .ref msecondKeys, .ref msecondValues, .ref msecondHeights, .ref msecondHeats, .int mo_foundAt_3, .int mo_foundLooks_3, .int mo_foundLane_3, .int mo_bestsDone, .ref msaved, .ref mbestHeights, .int mo_seenMany, .ref msights, .ref mby, .int mo_seedNow, .int mo_keptRow, .int mo_keptMany, .int mo_keptSecond, .int mo_keptAsked, .int mo_keptLooks, .int mo_keptChanges, .int mo_keptSeen, .ref mkeptKeys, .ref mkeptValues, .ref mkeptHeights, .ref mkeptHeats, .ref mkeptKeys2, .ref mkeptValues2, .ref mkeptHeights2, .ref mkeptHeats2, .ref mkeptSights, .long mo_hash])), (mkeys, .inl (cy, 8, .inl mkeys_a)), (mheights, .inl (cy, 8, .inl mheights_a)), (mby, .inl (cy, 5, .inl mby_a_3))] → va_S A s.heap H locs → lv_has ls 8 [(4, .int x4_3), (0, .ref mo), (1, .int a), (2, .int b), (3, .int d)] → W p l e { frames := 5, cells := 0, slots := 0, locals := 117 } s m args below meth c H locs 0 0 Q (F0 m 3 ls []) := by
    intro fu_3
    induction fu_3 with
    | zero =>
      intro x4_3 mo_foundAt_3 mo_foundLooks_3 mo_foundLane_3 mby_a_3 H locs ls hi_3_0 hi_3_1 hm hP hD hS hl
      exfalso; omega
    | succ fu_3 ih_3 =>
      intro x4_3 mo_foundAt_3 mo_foundLooks_3 mo_foundLane_3 mby_a_3 H locs ls hi_3_0 hi_3_1 hm hP hD hS hl
      refine lv_iload hx hb dX12_worstBy_3 (lv_at hl 0 rfl) ?_
      refine lv_iconst (v := 5) hx hb dX12_worstBy_5 (by decide) ?_
      refine lv_icmp_ge (tgt := 30) hx hb dX12_worstBy_6 (by decide) (fun c_1 => ?_) (fun c_1 => ?_)
      · have k_1 : 5 ≤ x4_3.toInt := wk_le c_1
        refine lv_iconst (v := 0) hx hb dX12_worstBy_30 (by decide) ?_
        refine lv_istore (lv' := [(4, .int 0), (0, .ref mo), (1, .int a), (2, .int b), (3, .int d)]) hx hb dX12_worstBy_31 hl (by decide) rfl (fun ls hl => ?_)
        refine lv_iconst (v := 1) hx hb dX12_worstBy_33 (by decide) ?_
        refine lv_istore (lv' := [(5, .int 1), (4, .int 0), (0, .ref mo), (1, .int a), (2, .int b), (3, .int d)]) hx hb dX12_worstBy_34 hl (by decide) rfl (fun ls hl => ?_)
        have hlp_36 : ∀ (fu_36 : Nat) (x4_36 : Int32) (x5_36 : Int32) (H : Heap) (locs : List Loc) (ls : Array Slot), (1 ≤ x5_36.toInt ∧ x5_36.toInt ≤ 5) → 5 - x5_36.toInt < (fu_36 : Int) → va_P D classes [(mo, .inr (12, [.ref mpage, .int mo_pageMany, .int mo_law, .int mo_many, .int mo_asked, .int mo_looksAll, .int mo_changes, .int mo_rowsRead, .ref mkeys, .ref mvalues, .ref mheights, .ref mheats, .int mo_secondMany, .ref msecondKeys, .ref msecondValues, .ref msecondHeights, .ref msecondHeats, .int mo_foundAt_3, .int mo_foundLooks_3, .int mo_foundLane_3, .int mo_bestsDone, .ref msaved, .ref mbestHeights, .int mo_seenMany, .ref msights, .ref mby, .int mo_seedNow, .int mo_keptRow, .int mo_keptMany, .int mo_keptSecond, .int mo_keptAsked, .int mo_keptLooks, .int mo_keptChanges, .int mo_keptSeen, .ref mkeptKeys, .ref mkeptValues, .ref mkeptHeights, .ref mkeptHeats, .ref mkeptKeys2, .ref mkeptValues2, .ref mkeptHeights2, .ref mkeptHeats2, .ref mkeptSights, .long mo_hash])), (mkeys, .inl (cy, 8, .inl mkeys_a)), (mheights, .inl (cy, 8, .inl mheights_a)), (mby, .inl (cy, 5, .inl mby_a_3))] H → va_D A [(mo, .inr (12, [.ref mpage, .int mo_pageMany, .int mo_law, .int mo_many, .int mo_asked, .int mo_looksAll, .int mo_changes, .int mo_rowsRead, .ref mkeys, .ref mvalues, .ref mheights, .ref mheats, .int mo_secondMany, .ref msecondKeys, .ref msecondValues, .ref msecondHeights, .ref msecondHeats, .int mo_foundAt_3, .int mo_foundLooks_3, .int mo_foundLane_3, .int mo_bestsDone, .ref msaved, .ref mbestHeights, .int mo_seenMany, .ref msights, .ref mby, .int mo_seedNow, .int mo_keptRow, .int mo_keptMany, .int mo_keptSecond, .int mo_keptAsked, .int mo_keptLooks, .int mo_keptChanges, .int mo_keptSeen, .ref mkeptKeys, .ref mkeptValues, .ref mkeptHeights, .ref mkeptHeats, .ref mkeptKeys2, .ref mkeptValues2, .ref mkeptHeights2, .ref mkeptHeats2, .ref mkeptSights, .long mo_hash])), (mkeys, .inl (cy, 8, .inl mkeys_a)), (mheights, .inl (cy, 8, .inl mheights_a)), (mby, .inl (cy, 5, .inl mby_a_3))] → va_S A s.heap H locs → lv_has ls 8 [(5, .int x5_36), (4, .int x4_36), (0, .ref mo), (1, .int a), (2, .int b), (3, .int d)] → W p l e { frames := 5, cells := 0, slots := 0, locals := 117 } s m args below meth c H locs 0 0 Q (F0 m 36 ls []) := by
          intro fu_36
          induction fu_36 with
          | zero =>
            intro x4_36 x5_36 H locs ls hi_36_0 hm hP hD hS hl
            exfalso; omega
          | succ fu_36 ih_36 =>
            intro x4_36 x5_36 H locs ls hi_36_0 hm hP hD hS hl
            refine lv_iload hx hb dX12_worstBy_36 (lv_at hl 0 rfl) ?_
            refine lv_iconst (v := 5) hx hb dX12_worstBy_38 (by decide) ?_
            refine lv_icmp_ge (tgt := 128) hx hb dX12_worstBy_39 (by decide) (fun c_2 => ?_) (fun c_2 => ?_)
            · have k_2 : 5 ≤ x5_36.toInt := wk_le c_2
              refine lv_iload hx hb dX12_worstBy_128 (lv_at hl 1 rfl) ?_
              refine W.widen (k := 0) (n := 0) (by decide) (by decide) ?_
              exact hret x4_36 (mo_foundAt_3, mo_foundLooks_3, mo_foundLane_3, mby_a_3) _ _ _ 130 (wk_sub9 (is := [0, 1, 2, 3]) hP rfl) (hD.sub [0, 1, 2, 3] rfl rfl) hS dX12_worstBy_130 (show ((-1) ≤ mo_foundAt_3.toInt ∧ mo_foundAt_3.toInt ≤ 7) from by omega)
            · have k_2 : ¬ 5 ≤ x5_36.toInt := wk_nle c_2
              refine lv_iconst (v := 0) hx hb dX12_worstBy_42 (by decide) ?_
              refine lv_istore (lv' := [(6, .int 0), (5, .int x5_36), (4, .int x4_36), (0, .ref mo), (1, .int a), (2, .int b), (3, .int d)]) hx hb dX12_worstBy_43 hl (by decide) rfl (fun ls hl => ?_)
              refine lv_iconst (v := 1) hx hb dX12_worstBy_45 (by decide) ?_
              refine lv_istore (lv' := [(7, .int 1), (6, .int 0), (5, .int x5_36), (4, .int x4_36), (0, .ref mo), (1, .int a), (2, .int b), (3, .int d)]) hx hb dX12_worstBy_46 hl (by decide) rfl (fun ls hl => ?_)
              have hlp_48 : ∀ (fu_48 : Nat) (x6_48 : Int32) (x7_48 : Int32) (H : Heap) (locs : List Loc) (ls : Array Slot), (1 ≤ x7_48.toInt ∧ x7_48.toInt ≤ 5) → 5 - x7_48.toInt < (fu_48 : Int) → va_P D classes [(mo, .inr (12, [.ref mpage, .int mo_pageMany, .int mo_law, .int mo_many, .int mo_asked, .int mo_looksAll, .int mo_changes, .int mo_rowsRead, .ref mkeys, .ref mvalues, .ref mheights, .ref mheats, .int mo_secondMany, .ref msecondKeys, .ref msecondValues, .ref msecondHeights, .ref msecondHeats, .int mo_foundAt_3, .int mo_foundLooks_3, .int mo_foundLane_3, .int mo_bestsDone, .ref msaved, .ref mbestHeights, .int mo_seenMany, .ref msights, .ref mby, .int mo_seedNow, .int mo_keptRow, .int mo_keptMany, .int mo_keptSecond, .int mo_keptAsked, .int mo_keptLooks, .int mo_keptChanges, .int mo_keptSeen, .ref mkeptKeys, .ref mkeptValues, .ref mkeptHeights, .ref mkeptHeats, .ref mkeptKeys2, .ref mkeptValues2, .ref mkeptHeights2, .ref mkeptHeats2, .ref mkeptSights, .long mo_hash])), (mkeys, .inl (cy, 8, .inl mkeys_a)), (mheights, .inl (cy, 8, .inl mheights_a)), (mby, .inl (cy, 5, .inl mby_a_3))] H → va_D A [(mo, .inr (12, [.ref mpage, .int mo_pageMany, .int mo_law, .int mo_many, .int mo_asked, .int mo_looksAll, .int mo_changes, .int mo_rowsRead, .ref mkeys, .ref mvalues, .ref mheights, .ref mheats, .int mo_secondMany, .ref msecondKeys, .ref msecondValues, .ref msecondHeights, .ref msecondHeats, .int mo_foundAt_3, .int mo_foundLooks_3, .int mo_foundLane_3, .int mo_bestsDone, .ref msaved, .ref mbestHeights, .int mo_seenMany, .ref msights, .ref mby, .int mo_seedNow, .int mo_keptRow, .int mo_keptMany, .int mo_keptSecond, .int mo_keptAsked, .int mo_keptLooks, .int mo_keptChanges, .int mo_keptSeen, .ref mkeptKeys, .ref mkeptValues, .ref mkeptHeights, .ref mkeptHeats, .ref mkeptKeys2, .ref mkeptValues2, .ref mkeptHeights2, .ref mkeptHeats2, .ref mkeptSights, .long mo_hash])), (mkeys, .inl (cy, 8, .inl mkeys_a)), (mheights, .inl (cy, 8, .inl mheights_a)), (mby, .inl (cy, 5, .inl mby_a_3))] → va_S A s.heap H locs → lv_has ls 8 [(7, .int x7_48), (6, .int x6_48), (5, .int x5_36), (4, .int x4_36), (0, .ref mo), (1, .int a), (2, .int b), (3, .int d)] → W p l e { frames := 5, cells := 0, slots := 0, locals := 117 } s m args below meth c H locs 0 0 Q (F0 m 48 ls []) := by
                intro fu_48
                induction fu_48 with
                | zero =>
                  intro x6_48 x7_48 H locs ls hi_48_0 hm hP hD hS hl
                  exfalso; omega
                | succ fu_48 ih_48 =>
                  intro x6_48 x7_48 H locs ls hi_48_0 hm hP hD hS hl
                  refine lv_iload hx hb dX12_worstBy_48 (lv_at hl 0 rfl) ?_
                  refine lv_iconst (v := 5) hx hb dX12_worstBy_50 (by decide) ?_
                  refine lv_icmp_ge (tgt := 94) hx hb dX12_worstBy_51 (by decide) (fun c_3 => ?_) (fun c_3 => ?_)
                  · have k_3 : 5 ≤ x7_48.toInt := wk_le c_3
                    refine lv_iload_n hx hb dX12_worstBy_94 rfl (lv_at hl 6 rfl) ?_
                    refine lv_iload hx hb dX12_worstBy_95 (lv_at hl 2 rfl) ?_
                    refine lv_iconst (v := 1) hx hb dX12_worstBy_97 (by decide) ?_
                    refine lv_isub hx hb dX12_worstBy_98 ?_
                    obtain ⟨z_4, ez_4⟩ : ∃ y : Int32, y = (x5_36 - 1) := ⟨_, rfl⟩
                    refine wk_toi ez_4.symm ?_
                    have k_5 : z_4.toInt = x5_36.toInt - 1 := by rw [ez_4]; exact wk_sub x5_36.toInt 1 rfl rfl (by omega) (by omega)
                    refine lv_ishr hx hb dX12_worstBy_99 ?_
                    refine lv_iconst (v := 1) hx hb dX12_worstBy_100 (by decide) ?_
                    refine lv_iand hx hb dX12_worstBy_101 ?_
                    refine lv_iconst (v := 1) hx hb dX12_worstBy_102 (by decide) ?_
                    refine lv_icmp_ne (tgt := 118) hx hb dX12_worstBy_103 (by decide) (fun c_6 => ?_) (fun c_6 => ?_)
                    · have k_6 : ¬ ((b >>> (z_4 &&& 31)) &&& 1).toInt = 1 := wk_neq c_6
                      refine lv_iload hx hb dX12_worstBy_118 (lv_at hl 3 rfl) ?_
                      refine lv_istore (lv' := [(4, .int x4_36), (7, .int x7_48), (6, .int x6_48), (5, .int x5_36), (0, .ref mo), (1, .int a), (2, .int b), (3, .int d)]) hx hb dX12_worstBy_120 hl (by decide) rfl (fun ls hl => ?_)
                      refine lv_iinc (v := (x5_36 + 1)) (lv' := [(5, .int (x5_36 + 1)), (4, .int x4_36), (7, .int x7_48), (6, .int x6_48), (0, .ref mo), (1, .int a), (2, .int b), (3, .int d)]) hx hb dX12_worstBy_122 hl (k := 3) rfl rfl (by decide) rfl (fun ls hl => ?_)
                      have k_7 : (x5_36 + 1).toInt = x5_36.toInt + 1 := wk_add x5_36.toInt 1 rfl rfl (by omega) (by omega)
                      refine lv_goto (tgt := 36) hx hb dX12_worstBy_125 (by decide) ?_
                      exact ih_36 x4_36 (x5_36 + 1) _ _ _ (show 1 ≤ (x5_36 + 1).toInt ∧ (x5_36 + 1).toInt ≤ 5 from by omega) (show 5 - (x5_36 + 1).toInt < ((fu_36 : Nat) : Int) from by omega) hP hD hS (lv_sub hl [0, 1, 4, 5, 6, 7] rfl)
                    · have k_6 : ((b >>> (z_4 &&& 31)) &&& 1).toInt = 1 := wk_eq c_6
                      refine lv_iload hx hb dX12_worstBy_106 (lv_at hl 1 rfl) ?_
                      refine lv_iload hx hb dX12_worstBy_108 (lv_at hl 3 rfl) ?_
                      refine lv_icmp_le (tgt := 118) hx hb dX12_worstBy_110 (by decide) (fun c_8 => ?_) (fun c_8 => ?_)
                      · have k_8 : x6_48.toInt ≤ x4_36.toInt := wk_le c_8
                        refine lv_iload hx hb dX12_worstBy_118 (lv_at hl 3 rfl) ?_
                        refine lv_istore (lv' := [(4, .int x4_36), (7, .int x7_48), (6, .int x6_48), (5, .int x5_36), (0, .ref mo), (1, .int a), (2, .int b), (3, .int d)]) hx hb dX12_worstBy_120 hl (by decide) rfl (fun ls hl => ?_)
                        refine lv_iinc (v := (x5_36 + 1)) (lv' := [(5, .int (x5_36 + 1)), (4, .int x4_36), (7, .int x7_48), (6, .int x6_48), (0, .ref mo), (1, .int a), (2, .int b), (3, .int d)]) hx hb dX12_worstBy_122 hl (k := 3) rfl rfl (by decide) rfl (fun ls hl => ?_)
                        have k_9 : (x5_36 + 1).toInt = x5_36.toInt + 1 := wk_add x5_36.toInt 1 rfl rfl (by omega) (by omega)
                        refine lv_goto (tgt := 36) hx hb dX12_worstBy_125 (by decide) ?_
                        exact ih_36 x4_36 (x5_36 + 1) _ _ _ (show 1 ≤ (x5_36 + 1).toInt ∧ (x5_36 + 1).toInt ≤ 5 from by omega) (show 5 - (x5_36 + 1).toInt < ((fu_36 : Nat) : Int) from by omega) hP hD hS (lv_sub hl [0, 1, 4, 5, 6, 7] rfl)
                      · have k_8 : ¬ x6_48.toInt ≤ x4_36.toInt := wk_nle c_8
                        refine lv_iload hx hb dX12_worstBy_113 (lv_at hl 1 rfl) ?_
                        refine lv_goto (tgt := 120) hx hb dX12_worstBy_115 (by decide) ?_
                        refine lv_istore (lv' := [(4, .int x6_48), (7, .int x7_48), (6, .int x6_48), (5, .int x5_36), (0, .ref mo), (1, .int a), (2, .int b), (3, .int d)]) hx hb dX12_worstBy_120 hl (by decide) rfl (fun ls hl => ?_)
                        refine lv_iinc (v := (x5_36 + 1)) (lv' := [(5, .int (x5_36 + 1)), (4, .int x6_48), (7, .int x7_48), (6, .int x6_48), (0, .ref mo), (1, .int a), (2, .int b), (3, .int d)]) hx hb dX12_worstBy_122 hl (k := 3) rfl rfl (by decide) rfl (fun ls hl => ?_)
                        have k_10 : (x5_36 + 1).toInt = x5_36.toInt + 1 := wk_add x5_36.toInt 1 rfl rfl (by omega) (by omega)
                        refine lv_goto (tgt := 36) hx hb dX12_worstBy_125 (by decide) ?_
                        exact ih_36 x6_48 (x5_36 + 1) _ _ _ (show 1 ≤ (x5_36 + 1).toInt ∧ (x5_36 + 1).toInt ≤ 5 from by omega) (show 5 - (x5_36 + 1).toInt < ((fu_36 : Nat) : Int) from by omega) hP hD hS (lv_sub hl [0, 1, 4, 5, 6, 7] rfl)
                  · have k_3 : ¬ 5 ≤ x7_48.toInt := wk_nle c_3
                    refine lv_iload hx hb dX12_worstBy_54 (lv_at hl 1 rfl) ?_
                    refine lv_aload_n hx hb dX12_worstBy_56 rfl (lv_at hl 4 rfl) ?_
                    refine va_get (D := D) (ci := 12) (v := .ref mby) (C := RX12) (T := TX12) (N := 44) hx hb htb inX12 hown hK hP 0 rfl rfl 25 (by decide) (htb _ tw_788) (fun _ h9 => h9) rfl dX12_worstBy_57 ?_
                    refine lv_iload hx hb dX12_worstBy_60 (lv_at hl 0 rfl) ?_
                    refine va_iald hx hb hK hP 3 0 rfl rfl (show vp_in x7_48 5 from vp_in_iff.mpr (show 0 ≤ x7_48.toInt ∧ x7_48.toInt < ((5 : Nat) : Int) from by omega)) dX12_worstBy_62 ?_
                    refine lv_aload_n hx hb dX12_worstBy_63 rfl (lv_at hl 4 rfl) ?_
                    refine va_get (D := D) (ci := 12) (v := .ref mby) (C := RX12) (T := TX12) (N := 44) hx hb htb inX12 hown hK hP 0 rfl rfl 25 (by decide) (htb _ tw_788) (fun _ h9 => h9) rfl dX12_worstBy_64 ?_
                    refine lv_iload hx hb dX12_worstBy_67 (lv_at hl 2 rfl) ?_
                    refine va_iald hx hb hK hP 3 0 rfl rfl (show vp_in x5_36 5 from vp_in_iff.mpr (show 0 ≤ x5_36.toInt ∧ x5_36.toInt < ((5 : Nat) : Int) from by omega)) dX12_worstBy_69 ?_
                    refine lv_icmp_ne (tgt := 84) hx hb dX12_worstBy_70 (by decide) (fun c_11 => ?_) (fun c_11 => ?_)
                    · have k_11 : ¬ (mby_a_3 x7_48.toNatClampNeg).toInt = (mby_a_3 x5_36.toNatClampNeg).toInt := wk_neq c_11
                      refine lv_iconst (v := 0) hx hb dX12_worstBy_84 (by decide) ?_
                      refine lv_iadd hx hb dX12_worstBy_85 ?_
                      refine lv_istore (lv' := [(6, .int (x6_48 + 0)), (7, .int x7_48), (5, .int x5_36), (4, .int x4_36), (0, .ref mo), (1, .int a), (2, .int b), (3, .int d)]) hx hb dX12_worstBy_86 hl (by decide) rfl (fun ls hl => ?_)
                      refine lv_iinc (v := (x7_48 + 1)) (lv' := [(7, .int (x7_48 + 1)), (6, .int (x6_48 + 0)), (5, .int x5_36), (4, .int x4_36), (0, .ref mo), (1, .int a), (2, .int b), (3, .int d)]) hx hb dX12_worstBy_88 hl (k := 1) rfl rfl (by decide) rfl (fun ls hl => ?_)
                      have k_12 : (x7_48 + 1).toInt = x7_48.toInt + 1 := wk_add x7_48.toInt 1 rfl rfl (by omega) (by omega)
                      refine lv_goto (tgt := 48) hx hb dX12_worstBy_91 (by decide) ?_
                      exact ih_48 (x6_48 + 0) (x7_48 + 1) _ _ _ (show 1 ≤ (x7_48 + 1).toInt ∧ (x7_48 + 1).toInt ≤ 5 from by omega) (show 5 - (x7_48 + 1).toInt < ((fu_48 : Nat) : Int) from by omega) hP hD hS (lv_sub hl [0, 1, 2, 3, 4, 5, 6, 7] rfl)
                    · have k_11 : (mby_a_3 x7_48.toNatClampNeg).toInt = (mby_a_3 x5_36.toNatClampNeg).toInt := wk_eq c_11
                      refine lv_iload_n hx hb dX12_worstBy_73 rfl (lv_at hl 6 rfl) ?_
                      refine lv_iload hx hb dX12_worstBy_74 (lv_at hl 0 rfl) ?_
                      refine lv_iconst (v := 1) hx hb dX12_worstBy_76 (by decide) ?_
                      refine lv_isub hx hb dX12_worstBy_77 ?_
                      obtain ⟨z_13, ez_13⟩ : ∃ y : Int32, y = (x7_48 - 1) := ⟨_, rfl⟩
                      refine wk_toi ez_13.symm ?_
                      have k_14 : z_13.toInt = x7_48.toInt - 1 := by rw [ez_13]; exact wk_sub x7_48.toInt 1 rfl rfl (by omega) (by omega)
                      refine lv_ishr hx hb dX12_worstBy_78 ?_
                      refine lv_iconst (v := 1) hx hb dX12_worstBy_79 (by decide) ?_
                      refine lv_iand hx hb dX12_worstBy_80 ?_
                      refine lv_goto (tgt := 85) hx hb dX12_worstBy_81 (by decide) ?_
                      refine lv_iadd hx hb dX12_worstBy_85 ?_
                      refine lv_istore (lv' := [(6, .int (x6_48 + ((b >>> (z_13 &&& 31)) &&& 1))), (7, .int x7_48), (5, .int x5_36), (4, .int x4_36), (0, .ref mo), (1, .int a), (2, .int b), (3, .int d)]) hx hb dX12_worstBy_86 hl (by decide) rfl (fun ls hl => ?_)
                      refine lv_iinc (v := (x7_48 + 1)) (lv' := [(7, .int (x7_48 + 1)), (6, .int (x6_48 + ((b >>> (z_13 &&& 31)) &&& 1))), (5, .int x5_36), (4, .int x4_36), (0, .ref mo), (1, .int a), (2, .int b), (3, .int d)]) hx hb dX12_worstBy_88 hl (k := 1) rfl rfl (by decide) rfl (fun ls hl => ?_)
                      have k_15 : (x7_48 + 1).toInt = x7_48.toInt + 1 := wk_add x7_48.toInt 1 rfl rfl (by omega) (by omega)
                      refine lv_goto (tgt := 48) hx hb dX12_worstBy_91 (by decide) ?_
                      exact ih_48 (x6_48 + ((b >>> (z_13 &&& 31)) &&& 1)) (x7_48 + 1) _ _ _ (show 1 ≤ (x7_48 + 1).toInt ∧ (x7_48 + 1).toInt ≤ 5 from by omega) (show 5 - (x7_48 + 1).toInt < ((fu_48 : Nat) : Int) from by omega) hP hD hS (lv_sub hl [0, 1, 2, 3, 4, 5, 6, 7] rfl)
              exact hlp_48 6 0 1 _ _ _ (show 1 ≤ 1 ∧ 1 ≤ 5 from by omega) (show 5 - 1 < ((6 : Nat) : Int) from by omega) hP hD hS (lv_sub hl [0, 1, 2, 3, 4, 5, 6, 7] rfl)
        exact hlp_36 6 0 1 _ _ _ (show 1 ≤ 1 ∧ 1 ≤ 5 from by omega) (show 5 - 1 < ((6 : Nat) : Int) from by omega) hP hD hS (lv_sub hl [0, 1, 2, 3, 4, 5] rfl)
      · have k_1 : ¬ 5 ≤ x4_3.toInt := wk_nle c_1
        refine lv_aload_n hx hb dX12_worstBy_9 rfl (lv_at hl 1 rfl) ?_
        refine va_get (D := D) (ci := 12) (v := .ref mby) (C := RX12) (T := TX12) (N := 44) hx hb htb inX12 hown hK hP 0 rfl rfl 25 (by decide) (htb _ tw_788) (fun _ h9 => h9) rfl dX12_worstBy_10 ?_
        refine lv_iload hx hb dX12_worstBy_13 (lv_at hl 0 rfl) ?_
        refine lv_aload_n hx hb dX12_worstBy_15 rfl (lv_at hl 1 rfl) ?_
        refine lv_iload_n hx hb dX12_worstBy_16 rfl (lv_at hl 2 rfl) ?_
        refine lv_iload hx hb dX12_worstBy_17 (lv_at hl 0 rfl) ?_
        refine lv_iload_n hx hb dX12_worstBy_19 rfl (lv_at hl 4 rfl) ?_
        refine wk_iV (As := [.int a, .int x4_3, .int d]) (rest := [.int x4_3, .ref mby]) (wc := [(mo, .inr (12, [.ref mpage, .int mo_pageMany, .int mo_law, .int mo_many, .int mo_asked, .int mo_looksAll, .int mo_changes, .int mo_rowsRead, .ref mkeys, .ref mvalues, .ref mheights, .ref mheats, .int mo_secondMany, .ref msecondKeys, .ref msecondValues, .ref msecondHeights, .ref msecondHeats, .int mo_foundAt_3, .int mo_foundLooks_3, .int mo_foundLane_3, .int mo_bestsDone, .ref msaved, .ref mbestHeights, .int mo_seenMany, .ref msights, .ref mby, .int mo_seedNow, .int mo_keptRow, .int mo_keptMany, .int mo_keptSecond, .int mo_keptAsked, .int mo_keptLooks, .int mo_keptChanges, .int mo_keptSeen, .ref mkeptKeys, .ref mkeptValues, .ref mkeptHeights, .ref mkeptHeats, .ref mkeptKeys2, .ref mkeptValues2, .ref mkeptHeights2, .ref mkeptHeats2, .ref mkeptSights, .long mo_hash])), (mkeys, .inl (cy, 8, .inl mkeys_a)), (mheights, .inl (cy, 8, .inl mheights_a))]) (wr := [(mby, .inl (cy, 5, .inl mby_a_3))]) (n := 3) ⟨hx, hb, hml, hown, htb⟩ (c_X12_looksIf l D cy mo mpage mkeys mvalues mheights mheats msecondKeys msecondValues msecondHeights msecondHeats msaved mbestHeights msights mby mkeptKeys mkeptValues mkeptHeights mkeptHeats mkeptKeys2 mkeptValues2 mkeptHeights2 mkeptHeats2 mkeptSights mo_pageMany mo_law mo_many mo_asked mo_looksAll mo_changes mo_rowsRead mo_secondMany mo_foundAt_3 mo_foundLooks_3 mo_foundLane_3 mo_bestsDone mo_seenMany mo_seedNow mo_keptRow mo_keptMany mo_keptSecond mo_keptAsked mo_keptLooks mo_keptChanges mo_keptSeen mo_hash mkeys_a mheights_a a x4_3 d (show 0 ≤ mo_pageMany.toInt ∧ mo_pageMany.toInt ≤ 44 from by omega) (show 0 ≤ mo_many.toInt ∧ mo_many.toInt ≤ 8 from by omega) (show 0 ≤ mo_secondMany.toInt ∧ mo_secondMany.toInt ≤ 8 from by omega) (show (-1) ≤ mo_foundAt_3.toInt ∧ mo_foundAt_3.toInt ≤ 7 from by omega) (show 0 ≤ mo_seenMany.toInt ∧ mo_seenMany.toInt ≤ 6 from by omega) (show 0 ≤ mo_keptMany.toInt ∧ mo_keptMany.toInt ≤ 8 from by omega) (show 0 ≤ mo_keptSecond.toInt ∧ mo_keptSecond.toInt ≤ 8 from by omega) (show 0 ≤ mo_keptSeen.toInt ∧ mo_keptSeen.toInt ≤ 6 from by omega) (show 0 ≤ a.toInt ∧ a.toInt ≤ 7 from by omega)) tw_1046 tw_1043 tw_1045 tw_42 tw_71 rfl rfl (by decide +kernel) ⟨Nat.le_of_ble_eq_true rfl, Nat.le_of_ble_eq_true rfl⟩ hK hP hD hS hA [0, 1, 2] [3] rfl rfl rfl rfl (by decide) 0 (ci := 12) rfl rfl rfl hl.1 rfl (Nat.le_of_ble_eq_true rfl) dX12_worstBy_20 ⟨Nat.le_of_ble_eq_true rfl, Nat.le_of_ble_eq_true rfl⟩ (fun r_16 u_17 H locs hw_18 hP hD hS => ?_)
        refine W.widen (k := 0) (n := 0) (by decide) (by decide) ?_
        obtain ⟨o_19, o_20, o_21⟩ := u_17
        obtain ⟨hw_18, k_22⟩ := hw_18
        have hw_18 : (r_16, o_19, o_20, o_21) = (fn_X12_looksIf mo_many mo_foundAt_3 mo_foundLooks_3 mo_foundLane_3 mkeys_a mheights_a a x4_3 d) := hw_18
        have k_22 : ((-1) ≤ o_19.toInt ∧ o_19.toInt ≤ 7) := k_22
        have hP : va_P D classes [(mby, .inl (cy, 5, .inl mby_a_3)), (mo, .inr (12, [.ref mpage, .int mo_pageMany, .int mo_law, .int mo_many, .int mo_asked, .int mo_looksAll, .int mo_changes, .int mo_rowsRead, .ref mkeys, .ref mvalues, .ref mheights, .ref mheats, .int mo_secondMany, .ref msecondKeys, .ref msecondValues, .ref msecondHeights, .ref msecondHeats, .int o_19, .int o_20, .int o_21, .int mo_bestsDone, .ref msaved, .ref mbestHeights, .int mo_seenMany, .ref msights, .ref mby, .int mo_seedNow, .int mo_keptRow, .int mo_keptMany, .int mo_keptSecond, .int mo_keptAsked, .int mo_keptLooks, .int mo_keptChanges, .int mo_keptSeen, .ref mkeptKeys, .ref mkeptValues, .ref mkeptHeights, .ref mkeptHeats, .ref mkeptKeys2, .ref mkeptValues2, .ref mkeptHeights2, .ref mkeptHeats2, .ref mkeptSights, .long mo_hash])), (mkeys, .inl (cy, 8, .inl mkeys_a)), (mheights, .inl (cy, 8, .inl mheights_a))] H := hP
        have hD : va_D A [(mby, .inl (cy, 5, .inl mby_a_3)), (mo, .inr (12, [.ref mpage, .int mo_pageMany, .int mo_law, .int mo_many, .int mo_asked, .int mo_looksAll, .int mo_changes, .int mo_rowsRead, .ref mkeys, .ref mvalues, .ref mheights, .ref mheats, .int mo_secondMany, .ref msecondKeys, .ref msecondValues, .ref msecondHeights, .ref msecondHeats, .int o_19, .int o_20, .int o_21, .int mo_bestsDone, .ref msaved, .ref mbestHeights, .int mo_seenMany, .ref msights, .ref mby, .int mo_seedNow, .int mo_keptRow, .int mo_keptMany, .int mo_keptSecond, .int mo_keptAsked, .int mo_keptLooks, .int mo_keptChanges, .int mo_keptSeen, .ref mkeptKeys, .ref mkeptValues, .ref mkeptHeights, .ref mkeptHeats, .ref mkeptKeys2, .ref mkeptValues2, .ref mkeptHeights2, .ref mkeptHeats2, .ref mkeptSights, .long mo_hash])), (mkeys, .inl (cy, 8, .inl mkeys_a)), (mheights, .inl (cy, 8, .inl mheights_a))] := hD
        refine va_iast hx hb hK hP hD hS 0 0 rfl rfl (show vp_in x4_3 5 from vp_in_iff.mpr (show 0 ≤ x4_3.toInt ∧ x4_3.toInt < ((5 : Nat) : Int) from by omega)) dX12_worstBy_23 (fun H locs hP hD hS => ?_)
        have hP : va_P D classes [(mby, .inl (cy, 5, .inl (upd mby_a_3 x4_3.toNatClampNeg r_16))), (mo, .inr (12, [.ref mpage, .int mo_pageMany, .int mo_law, .int mo_many, .int mo_asked, .int mo_looksAll, .int mo_changes, .int mo_rowsRead, .ref mkeys, .ref mvalues, .ref mheights, .ref mheats, .int mo_secondMany, .ref msecondKeys, .ref msecondValues, .ref msecondHeights, .ref msecondHeats, .int o_19, .int o_20, .int o_21, .int mo_bestsDone, .ref msaved, .ref mbestHeights, .int mo_seenMany, .ref msights, .ref mby, .int mo_seedNow, .int mo_keptRow, .int mo_keptMany, .int mo_keptSecond, .int mo_keptAsked, .int mo_keptLooks, .int mo_keptChanges, .int mo_keptSeen, .ref mkeptKeys, .ref mkeptValues, .ref mkeptHeights, .ref mkeptHeats, .ref mkeptKeys2, .ref mkeptValues2, .ref mkeptHeights2, .ref mkeptHeats2, .ref mkeptSights, .long mo_hash])), (mkeys, .inl (cy, 8, .inl mkeys_a)), (mheights, .inl (cy, 8, .inl mheights_a))] H := hP
        have hD : va_D A [(mby, .inl (cy, 5, .inl (upd mby_a_3 x4_3.toNatClampNeg r_16))), (mo, .inr (12, [.ref mpage, .int mo_pageMany, .int mo_law, .int mo_many, .int mo_asked, .int mo_looksAll, .int mo_changes, .int mo_rowsRead, .ref mkeys, .ref mvalues, .ref mheights, .ref mheats, .int mo_secondMany, .ref msecondKeys, .ref msecondValues, .ref msecondHeights, .ref msecondHeats, .int o_19, .int o_20, .int o_21, .int mo_bestsDone, .ref msaved, .ref mbestHeights, .int mo_seenMany, .ref msights, .ref mby, .int mo_seedNow, .int mo_keptRow, .int mo_keptMany, .int mo_keptSecond, .int mo_keptAsked, .int mo_keptLooks, .int mo_keptChanges, .int mo_keptSeen, .ref mkeptKeys, .ref mkeptValues, .ref mkeptHeights, .ref mkeptHeats, .ref mkeptKeys2, .ref mkeptValues2, .ref mkeptHeights2, .ref mkeptHeats2, .ref mkeptSights, .long mo_hash])), (mkeys, .inl (cy, 8, .inl mkeys_a)), (mheights, .inl (cy, 8, .inl mheights_a))] := hD
        refine lv_iinc (v := (x4_3 + 1)) (lv' := [(4, .int (x4_3 + 1)), (0, .ref mo), (1, .int a), (2, .int b), (3, .int d)]) hx hb dX12_worstBy_24 hl (k := 0) rfl rfl (by decide) rfl (fun ls hl => ?_)
        have k_23 : (x4_3 + 1).toInt = x4_3.toInt + 1 := wk_add x4_3.toInt 1 rfl rfl (by omega) (by omega)
        refine lv_goto (tgt := 3) hx hb dX12_worstBy_27 (by decide) ?_
        exact ih_3 (x4_3 + 1) o_19 o_20 o_21 (upd mby_a_3 x4_3.toNatClampNeg r_16) _ _ _ (show 1 ≤ (x4_3 + 1).toInt ∧ (x4_3 + 1).toInt ≤ 5 from by omega) (show (-1) ≤ o_19.toInt ∧ o_19.toInt ≤ 7 from by omega) (show 5 - (x4_3 + 1).toInt < ((fu_3 : Nat) : Int) from by omega) (wk_sub9 (is := [1, 2, 3, 0]) hP rfl) (hD.sub [1, 2, 3, 0] rfl rfl) hS (lv_sub hl [0, 1, 2, 3, 4] rfl)
  exact hlp_3 6 1 mo_foundAt mo_foundLooks mo_foundLane mby_a _ _ _ (show 1 ≤ 1 ∧ 1 ≤ 5 from by omega) (show (-1) ≤ mo_foundAt.toInt ∧ mo_foundAt.toInt ≤ 7 from by omega) (show 5 - 1 < ((6 : Nat) : Int) from by omega) hP hD hS (lv_sub hl [0, 1, 2, 3, 4] rfl)
theorem dX12_tryOf_0 : decode cX12_tryOf 0 = .ok (.aload_n 0, 1) := by decide +kernel
theorem dX12_tryOf_1 : decode cX12_tryOf 1 = .ok (.iload_n 1, 1) := by decide +kernel
theorem dX12_tryOf_2 : decode cX12_tryOf 2 = .ok (.invokevirtual 217, 3) := by decide +kernel
theorem dX12_tryOf_5 : decode cX12_tryOf 5 = .ok (.istore_n 2, 1) := by decide +kernel
theorem dX12_tryOf_6 : decode cX12_tryOf 6 = .ok (.iconst (-1), 1) := by decide +kernel
theorem dX12_tryOf_7 : decode cX12_tryOf 7 = .ok (.istore_n 3, 1) := by decide +kernel
theorem dX12_tryOf_8 : decode cX12_tryOf 8 = .ok (.iconst 5, 1) := by decide +kernel
theorem dX12_tryOf_9 : decode cX12_tryOf 9 = .ok (.istore 4, 2) := by decide +kernel
theorem dX12_tryOf_11 : decode cX12_tryOf 11 = .ok (.iconst 0, 1) := by decide +kernel
theorem dX12_tryOf_12 : decode cX12_tryOf 12 = .ok (.istore 5, 2) := by decide +kernel
theorem dX12_tryOf_14 : decode cX12_tryOf 14 = .ok (.iload 5, 2) := by decide +kernel
theorem dX12_tryOf_16 : decode cX12_tryOf 16 = .ok (.bipush 100, 2) := by decide +kernel
theorem dX12_tryOf_18 : decode cX12_tryOf 18 = .ok (.if_icmp .ge 53, 3) := by decide +kernel
theorem dX12_tryOf_21 : decode cX12_tryOf 21 = .ok (.iload_n 2, 1) := by decide +kernel
theorem dX12_tryOf_22 : decode cX12_tryOf 22 = .ok (.ifCond .eq 49, 3) := by decide +kernel
theorem dX12_tryOf_25 : decode cX12_tryOf 25 = .ok (.aload_n 0, 1) := by decide +kernel
theorem dX12_tryOf_26 : decode cX12_tryOf 26 = .ok (.iload_n 1, 1) := by decide +kernel
theorem dX12_tryOf_27 : decode cX12_tryOf 27 = .ok (.iload_n 2, 1) := by decide +kernel
theorem dX12_tryOf_28 : decode cX12_tryOf 28 = .ok (.iload 5, 2) := by decide +kernel
theorem dX12_tryOf_30 : decode cX12_tryOf 30 = .ok (.invokevirtual 286, 3) := by decide +kernel
theorem dX12_tryOf_33 : decode cX12_tryOf 33 = .ok (.istore 6, 2) := by decide +kernel
theorem dX12_tryOf_35 : decode cX12_tryOf 35 = .ok (.iload 6, 2) := by decide +kernel
theorem dX12_tryOf_37 : decode cX12_tryOf 37 = .ok (.iload 4, 2) := by decide +kernel
theorem dX12_tryOf_39 : decode cX12_tryOf 39 = .ok (.if_icmp .ge 8, 3) := by decide +kernel
theorem dX12_tryOf_42 : decode cX12_tryOf 42 = .ok (.iload 5, 2) := by decide +kernel
theorem dX12_tryOf_44 : decode cX12_tryOf 44 = .ok (.goto 4, 3) := by decide +kernel
theorem dX12_tryOf_47 : decode cX12_tryOf 47 = .ok (.iload_n 3, 1) := by decide +kernel
theorem dX12_tryOf_48 : decode cX12_tryOf 48 = .ok (.istore_n 3, 1) := by decide +kernel
theorem dX12_tryOf_49 : decode cX12_tryOf 49 = .ok (.iload 6, 2) := by decide +kernel
theorem dX12_tryOf_51 : decode cX12_tryOf 51 = .ok (.iload 4, 2) := by decide +kernel
theorem dX12_tryOf_53 : decode cX12_tryOf 53 = .ok (.if_icmp .ge 8, 3) := by decide +kernel
theorem dX12_tryOf_56 : decode cX12_tryOf 56 = .ok (.iload 6, 2) := by decide +kernel
theorem dX12_tryOf_58 : decode cX12_tryOf 58 = .ok (.goto 5, 3) := by decide +kernel
theorem dX12_tryOf_61 : decode cX12_tryOf 61 = .ok (.iload 4, 2) := by decide +kernel
theorem dX12_tryOf_63 : decode cX12_tryOf 63 = .ok (.istore 4, 2) := by decide +kernel
theorem dX12_tryOf_65 : decode cX12_tryOf 65 = .ok (.iinc 5 1, 3) := by decide +kernel
theorem dX12_tryOf_68 : decode cX12_tryOf 68 = .ok (.goto (-54), 3) := by decide +kernel
theorem dX12_tryOf_71 : decode cX12_tryOf 71 = .ok (.iload_n 3, 1) := by decide +kernel
theorem dX12_tryOf_72 : decode cX12_tryOf 72 = .ok (.ireturn, 1) := by decide +kernel
set_option maxHeartbeats 4000000 in
set_option maxRecDepth 100000 in
theorem c_X12_tryOf (l : Launch) (D : va_G) (cy : ClassId) (mo mpage mkeys mvalues mheights mheats msecondKeys msecondValues msecondHeights msecondHeats msaved mbestHeights msights mby mkeptKeys mkeptValues mkeptHeights mkeptHeats mkeptKeys2 mkeptValues2 mkeptHeights2 mkeptHeats2 mkeptSights : Nat) (mo_pageMany : Int32) (mo_law : Int32) (mo_many : Int32) (mo_asked : Int32) (mo_looksAll : Int32) (mo_changes : Int32) (mo_rowsRead : Int32) (mo_secondMany : Int32) (mo_foundAt : Int32) (mo_foundLooks : Int32) (mo_foundLane : Int32) (mo_bestsDone : Int32) (mo_seenMany : Int32) (mo_seedNow : Int32) (mo_keptRow : Int32) (mo_keptMany : Int32) (mo_keptSecond : Int32) (mo_keptAsked : Int32) (mo_keptLooks : Int32) (mo_keptChanges : Int32) (mo_keptSeen : Int32) (mo_hash : Int64) (mkeys_a : Nat → Int32) (mheights_a : Nat → Int32) (msights_a : Nat → Int32) (mby_a : Nat → Int32) (a : Int32) (g_0 : 0 ≤ mo_pageMany.toInt ∧ mo_pageMany.toInt ≤ 44) (g_1 : 0 ≤ mo_many.toInt ∧ mo_many.toInt ≤ 8) (g_2 : 0 ≤ mo_secondMany.toInt ∧ mo_secondMany.toInt ≤ 8) (g_3 : (-1) ≤ mo_foundAt.toInt ∧ mo_foundAt.toInt ≤ 7) (g_4 : 0 ≤ mo_seenMany.toInt ∧ mo_seenMany.toInt ≤ 6) (g_5 : 0 ≤ mo_keptMany.toInt ∧ mo_keptMany.toInt ≤ 8) (g_6 : 0 ≤ mo_keptSecond.toInt ∧ mo_keptSecond.toInt ≤ 8) (g_7 : 0 ≤ mo_keptSeen.toInt ∧ mo_keptSeen.toInt ≤ 6) (g_8 : 0 ≤ a.toInt ∧ a.toInt ≤ 7) : wk_Ci l yX12_tryOf cX12_tryOf 7 (some .int) { frames := 6, cells := 0, slots := 0, locals := 144 } D cy [.ref mo, .int a] [(mo, .inr (12, [.ref mpage, .int mo_pageMany, .int mo_law, .int mo_many, .int mo_asked, .int mo_looksAll, .int mo_changes, .int mo_rowsRead, .ref mkeys, .ref mvalues, .ref mheights, .ref mheats, .int mo_secondMany, .ref msecondKeys, .ref msecondValues, .ref msecondHeights, .ref msecondHeats, .int mo_foundAt, .int mo_foundLooks, .int mo_foundLane, .int mo_bestsDone, .ref msaved, .ref mbestHeights, .int mo_seenMany, .ref msights, .ref mby, .int mo_seedNow, .int mo_keptRow, .int mo_keptMany, .int mo_keptSecond, .int mo_keptAsked, .int mo_keptLooks, .int mo_keptChanges, .int mo_keptSeen, .ref mkeptKeys, .ref mkeptValues, .ref mkeptHeights, .ref mkeptHeats, .ref mkeptKeys2, .ref mkeptValues2, .ref mkeptHeights2, .ref mkeptHeats2, .ref mkeptSights, .long mo_hash])), (mkeys, .inl (cy, 8, .inl mkeys_a)), (mheights, .inl (cy, 8, .inl mheights_a)), (msights, .inl (cy, 18, .inl msights_a)), (mby, .inl (cy, 5, .inl mby_a))] 0 0 (fun (r : Int32) (u : Int32 × Int32 × Int32 × (Nat → Int32)) => ((-1) ≤ u.1.toInt ∧ u.1.toInt ≤ 7)) (fun u => [(mo, .inr (12, [.ref mpage, .int mo_pageMany, .int mo_law, .int mo_many, .int mo_asked, .int mo_looksAll, .int mo_changes, .int mo_rowsRead, .ref mkeys, .ref mvalues, .ref mheights, .ref mheats, .int mo_secondMany, .ref msecondKeys, .ref msecondValues, .ref msecondHeights, .ref msecondHeats, .int u.1, .int u.2.1, .int u.2.2.1, .int mo_bestsDone, .ref msaved, .ref mbestHeights, .int mo_seenMany, .ref msights, .ref mby, .int mo_seedNow, .int mo_keptRow, .int mo_keptMany, .int mo_keptSecond, .int mo_keptAsked, .int mo_keptLooks, .int mo_keptChanges, .int mo_keptSeen, .ref mkeptKeys, .ref mkeptValues, .ref mkeptHeights, .ref mkeptHeats, .ref mkeptKeys2, .ref mkeptValues2, .ref mkeptHeights2, .ref mkeptHeats2, .ref mkeptSights, .long mo_hash])), (mkeys, .inl (cy, 8, .inl mkeys_a)), (mheights, .inl (cy, 8, .inl mheights_a)), (msights, .inl (cy, 18, .inl msights_a)), (mby, .inl (cy, 5, .inl u.2.2.2))]) := by
  refine wk_mk2Ci (by decide) (Nat.le_of_ble_eq_true rfl) ?_
  intro p e s m args below meth c A ls Q B hA hK hP hD hS hl hret
  obtain ⟨hx, hb, hr, hlocks, hml, hown, htb, hin⟩ := B
  have hl : lv_has ls 7 [(0, .ref mo), (1, .int a)] := hl
  refine lv_aload_n hx hb dX12_tryOf_0 rfl (lv_at hl 0 rfl) ?_
  refine lv_iload_n hx hb dX12_tryOf_1 rfl (lv_at hl 1 rfl) ?_
  refine wk_iV (As := [.int a]) (rest := []) (wc := [(mo, .inr (12, [.ref mpage, .int mo_pageMany, .int mo_law, .int mo_many, .int mo_asked, .int mo_looksAll, .int mo_changes, .int mo_rowsRead, .ref mkeys, .ref mvalues, .ref mheights, .ref mheats, .int mo_secondMany, .ref msecondKeys, .ref msecondValues, .ref msecondHeights, .ref msecondHeats, .int mo_foundAt, .int mo_foundLooks, .int mo_foundLane, .int mo_bestsDone, .ref msaved, .ref mbestHeights, .int mo_seenMany, .ref msights, .ref mby, .int mo_seedNow, .int mo_keptRow, .int mo_keptMany, .int mo_keptSecond, .int mo_keptAsked, .int mo_keptLooks, .int mo_keptChanges, .int mo_keptSeen, .ref mkeptKeys, .ref mkeptValues, .ref mkeptHeights, .ref mkeptHeats, .ref mkeptKeys2, .ref mkeptValues2, .ref mkeptHeights2, .ref mkeptHeats2, .ref mkeptSights, .long mo_hash])), (mkeys, .inl (cy, 8, .inl mkeys_a)), (mheights, .inl (cy, 8, .inl mheights_a)), (msights, .inl (cy, 18, .inl msights_a))]) (wr := [(mby, .inl (cy, 5, .inl mby_a))]) (n := 1) ⟨hx, hb, hml, hown, htb⟩ (c_X12_heightsOf l D cy mo mpage mkeys mvalues mheights mheats msecondKeys msecondValues msecondHeights msecondHeats msaved mbestHeights msights mby mkeptKeys mkeptValues mkeptHeights mkeptHeats mkeptKeys2 mkeptValues2 mkeptHeights2 mkeptHeats2 mkeptSights mo_pageMany mo_law mo_many mo_asked mo_looksAll mo_changes mo_rowsRead mo_secondMany mo_foundAt mo_foundLooks mo_foundLane mo_bestsDone mo_seenMany mo_seedNow mo_keptRow mo_keptMany mo_keptSecond mo_keptAsked mo_keptLooks mo_keptChanges mo_keptSeen mo_hash mkeys_a mheights_a msights_a a (show 0 ≤ mo_pageMany.toInt ∧ mo_pageMany.toInt ≤ 44 from by omega) (show 0 ≤ mo_many.toInt ∧ mo_many.toInt ≤ 8 from by omega) (show 0 ≤ mo_secondMany.toInt ∧ mo_secondMany.toInt ≤ 8 from by omega) (show (-1) ≤ mo_foundAt.toInt ∧ mo_foundAt.toInt ≤ 7 from by omega) (show 0 ≤ mo_seenMany.toInt ∧ mo_seenMany.toInt ≤ 6 from by omega) (show 0 ≤ mo_keptMany.toInt ∧ mo_keptMany.toInt ≤ 8 from by omega) (show 0 ≤ mo_keptSecond.toInt ∧ mo_keptSecond.toInt ≤ 8 from by omega) (show 0 ≤ mo_keptSeen.toInt ∧ mo_keptSeen.toInt ≤ 6 from by omega) (show 0 ≤ a.toInt ∧ a.toInt ≤ 7 from by omega)) tw_1042 tw_1039 tw_1041 tw_41 tw_71 rfl rfl (by decide +kernel) ⟨Nat.le_of_ble_eq_true rfl, Nat.le_of_ble_eq_true rfl⟩ hK hP hD hS hA [0, 1, 2, 3] [4] rfl rfl rfl rfl (by decide) 0 (ci := 12) rfl rfl rfl hl.1 rfl (Nat.le_of_ble_eq_true rfl) dX12_tryOf_2 ⟨Nat.le_of_ble_eq_true rfl, Nat.le_of_ble_eq_true rfl⟩ (fun r_1 u_2 H locs hw_3 hP hD hS => ?_)
  refine W.widen (k := 0) (n := 0) (by decide) (by decide) ?_
  obtain ⟨o_4, o_5, o_6⟩ := u_2
  have k_7 := hw_3
  have k_7 : ((-1) ≤ o_4.toInt ∧ o_4.toInt ≤ 7) := k_7
  have hP : va_P D classes [(mby, .inl (cy, 5, .inl mby_a)), (mo, .inr (12, [.ref mpage, .int mo_pageMany, .int mo_law, .int mo_many, .int mo_asked, .int mo_looksAll, .int mo_changes, .int mo_rowsRead, .ref mkeys, .ref mvalues, .ref mheights, .ref mheats, .int mo_secondMany, .ref msecondKeys, .ref msecondValues, .ref msecondHeights, .ref msecondHeats, .int o_4, .int o_5, .int o_6, .int mo_bestsDone, .ref msaved, .ref mbestHeights, .int mo_seenMany, .ref msights, .ref mby, .int mo_seedNow, .int mo_keptRow, .int mo_keptMany, .int mo_keptSecond, .int mo_keptAsked, .int mo_keptLooks, .int mo_keptChanges, .int mo_keptSeen, .ref mkeptKeys, .ref mkeptValues, .ref mkeptHeights, .ref mkeptHeats, .ref mkeptKeys2, .ref mkeptValues2, .ref mkeptHeights2, .ref mkeptHeats2, .ref mkeptSights, .long mo_hash])), (mkeys, .inl (cy, 8, .inl mkeys_a)), (mheights, .inl (cy, 8, .inl mheights_a)), (msights, .inl (cy, 18, .inl msights_a))] H := hP
  have hD : va_D A [(mby, .inl (cy, 5, .inl mby_a)), (mo, .inr (12, [.ref mpage, .int mo_pageMany, .int mo_law, .int mo_many, .int mo_asked, .int mo_looksAll, .int mo_changes, .int mo_rowsRead, .ref mkeys, .ref mvalues, .ref mheights, .ref mheats, .int mo_secondMany, .ref msecondKeys, .ref msecondValues, .ref msecondHeights, .ref msecondHeats, .int o_4, .int o_5, .int o_6, .int mo_bestsDone, .ref msaved, .ref mbestHeights, .int mo_seenMany, .ref msights, .ref mby, .int mo_seedNow, .int mo_keptRow, .int mo_keptMany, .int mo_keptSecond, .int mo_keptAsked, .int mo_keptLooks, .int mo_keptChanges, .int mo_keptSeen, .ref mkeptKeys, .ref mkeptValues, .ref mkeptHeights, .ref mkeptHeats, .ref mkeptKeys2, .ref mkeptValues2, .ref mkeptHeights2, .ref mkeptHeats2, .ref mkeptSights, .long mo_hash])), (mkeys, .inl (cy, 8, .inl mkeys_a)), (mheights, .inl (cy, 8, .inl mheights_a)), (msights, .inl (cy, 18, .inl msights_a))] := hD
  refine lv_istore_n (lv' := [(2, .int r_1), (0, .ref mo), (1, .int a)]) hx hb dX12_tryOf_5 rfl hl (by decide) rfl (fun ls hl => ?_)
  refine lv_iconst (v := (-1)) hx hb dX12_tryOf_6 (by decide) ?_
  refine lv_istore_n (lv' := [(3, .int (-1)), (2, .int r_1), (0, .ref mo), (1, .int a)]) hx hb dX12_tryOf_7 rfl hl (by decide) rfl (fun ls hl => ?_)
  refine lv_iconst (v := 5) hx hb dX12_tryOf_8 (by decide) ?_
  refine lv_istore (lv' := [(4, .int 5), (3, .int (-1)), (2, .int r_1), (0, .ref mo), (1, .int a)]) hx hb dX12_tryOf_9 hl (by decide) rfl (fun ls hl => ?_)
  refine lv_iconst (v := 0) hx hb dX12_tryOf_11 (by decide) ?_
  refine lv_istore (lv' := [(5, .int 0), (4, .int 5), (3, .int (-1)), (2, .int r_1), (0, .ref mo), (1, .int a)]) hx hb dX12_tryOf_12 hl (by decide) rfl (fun ls hl => ?_)
  have hlp_14 : ∀ (fu_14 : Nat) (x3_14 : Int32) (x4_14 : Int32) (x5_14 : Int32) (mo_foundAt_14 : Int32) (mo_foundLooks_14 : Int32) (mo_foundLane_14 : Int32) (mby_a_14 : Nat → Int32) (H : Heap) (locs : List Loc) (ls : Array Slot), (0 ≤ x5_14.toInt ∧ x5_14.toInt ≤ 100) → ((-1) ≤ mo_foundAt_14.toInt ∧ mo_foundAt_14.toInt ≤ 7) → 100 - x5_14.toInt < (fu_14 : Int) → va_P D classes [(mby, .inl (cy, 5, .inl mby_a_14)), (mo, .inr (12, [.ref mpage, .int mo_pageMany, .int mo_law, .int mo_many, .int mo_asked, .int mo_looksAll, .int mo_changes, .int mo_rowsRead, .ref mkeys, .ref mvalues, .ref mheights, .ref mheats, .int mo_secondMany, .ref msecondKeys, .ref msecondValues, .ref msecondHeights, .ref msecondHeats, .int mo_foundAt_14, .int mo_foundLooks_14, .int mo_foundLane_14, .int mo_bestsDone, .ref msaved, .ref mbestHeights, .int mo_seenMany, .ref msights, .ref mby, .int mo_seedNow, .int mo_keptRow, .int mo_keptMany, .int mo_keptSecond, .int mo_keptAsked, .int mo_keptLooks, .int mo_keptChanges, .int mo_keptSeen, .ref mkeptKeys, .ref mkeptValues, .ref mkeptHeights, .ref mkeptHeats, .ref mkeptKeys2, .ref mkeptValues2, .ref mkeptHeights2, .ref mkeptHeats2, .ref mkeptSights, .long mo_hash])), (mkeys, .inl (cy, 8, .inl mkeys_a)), (mheights, .inl (cy, 8, .inl mheights_a)), (msights, .inl (cy, 18, .inl msights_a))] H → va_D A [(mby, .inl (cy, 5, .inl mby_a_14)), (mo, .inr (12, [.ref mpage, .int mo_pageMany, .int mo_law, .int mo_many, .int mo_asked, .int mo_looksAll, .int mo_changes, .int mo_rowsRead, .ref mkeys, .ref mvalues, .ref mheights, .ref mheats, .int mo_secondMany, .ref msecondKeys, .ref msecondValues, .ref msecondHeights, .ref msecondHeats, .int mo_foundAt_14, .int mo_foundLooks_14, .int mo_foundLane_14, .int mo_bestsDone, .ref msaved, .ref mbestHeights, .int mo_seenMany, .ref msights, .ref mby, .int mo_seedNow, .int mo_keptRow, .int mo_keptMany, .int mo_keptSecond, .int mo_keptAsked, .int mo_keptLooks, .int mo_keptChanges, .int mo_keptSeen, .ref mkeptKeys, .ref mkeptValues, .ref mkeptHeights, .ref mkeptHeats, .ref mkeptKeys2, .ref mkeptValues2, .ref mkeptHeights2, .ref mkeptHeats2, .ref mkeptSights, .long mo_hash])), (mkeys, .inl (cy, 8, .inl mkeys_a)), (mheights, .inl (cy, 8, .inl mheights_a)), (msights, .inl (cy, 18, .inl msights_a))] → va_S A s.heap H locs → lv_has ls 7 [(5, .int x5_14), (4, .int x4_14), (3, .int x3_14), (2, .int r_1), (0, .ref mo), (1, .int a)] → W p l e { frames := 6, cells := 0, slots := 0, locals := 144 } s m args below meth c H locs 0 0 Q (F0 m 14 ls []) := by
    intro fu_14
    induction fu_14 with
    | zero =>
      intro x3_14 x4_14 x5_14 mo_foundAt_14 mo_foundLooks_14 mo_foundLane_14 mby_a_14 H locs ls hi_14_0 hi_14_1 hm hP hD hS hl
      exfalso; omega
    | succ fu_14 ih_14 =>
      intro x3_14 x4_14 x5_14 mo_foundAt_14 mo_foundLooks_14 mo_foundLane_14 mby_a_14 H locs ls hi_14_0 hi_14_1 hm hP hD hS hl
      refine lv_iload hx hb dX12_tryOf_14 (lv_at hl 0 rfl) ?_
      refine lv_bipush (v := 100) hx hb dX12_tryOf_16 (by decide) ?_
      refine lv_icmp_ge (tgt := 71) hx hb dX12_tryOf_18 (by decide) (fun c_8 => ?_) (fun c_8 => ?_)
      · have k_8 : 100 ≤ x5_14.toInt := wk_le c_8
        refine lv_iload_n hx hb dX12_tryOf_71 rfl (lv_at hl 2 rfl) ?_
        refine W.widen (k := 0) (n := 0) (by decide) (by decide) ?_
        exact hret x3_14 (mo_foundAt_14, mo_foundLooks_14, mo_foundLane_14, mby_a_14) _ _ _ 72 (wk_sub9 (is := [1, 2, 3, 4, 0]) hP rfl) (hD.sub [1, 2, 3, 4, 0] rfl rfl) hS dX12_tryOf_72 (show ((-1) ≤ mo_foundAt_14.toInt ∧ mo_foundAt_14.toInt ≤ 7) from by omega)
      · have k_8 : ¬ 100 ≤ x5_14.toInt := wk_nle c_8
        refine lv_iload_n hx hb dX12_tryOf_21 rfl (lv_at hl 3 rfl) ?_
        refine lv_if_eq (tgt := 71) hx hb dX12_tryOf_22 (by decide) (fun c_9 => ?_) (fun c_9 => ?_)
        · have k_9 : r_1.toInt = 0 := wk_eq c_9
          refine lv_iload_n hx hb dX12_tryOf_71 rfl (lv_at hl 2 rfl) ?_
          refine W.widen (k := 0) (n := 0) (by decide) (by decide) ?_
          exact hret x3_14 (mo_foundAt_14, mo_foundLooks_14, mo_foundLane_14, mby_a_14) _ _ _ 72 (wk_sub9 (is := [1, 2, 3, 4, 0]) hP rfl) (hD.sub [1, 2, 3, 4, 0] rfl rfl) hS dX12_tryOf_72 (show ((-1) ≤ mo_foundAt_14.toInt ∧ mo_foundAt_14.toInt ≤ 7) from by omega)
        · have k_9 : ¬ r_1.toInt = 0 := wk_neq c_9
          refine lv_aload_n hx hb dX12_tryOf_25 rfl (lv_at hl 4 rfl) ?_
          refine lv_iload_n hx hb dX12_tryOf_26 rfl (lv_at hl 5 rfl) ?_
          refine lv_iload_n hx hb dX12_tryOf_27 rfl (lv_at hl 3 rfl) ?_
          refine lv_iload hx hb dX12_tryOf_28 (lv_at hl 0 rfl) ?_
          refine wk_iV (As := [.int a, .int r_1, .int x5_14]) (rest := []) (wc := [(mo, .inr (12, [.ref mpage, .int mo_pageMany, .int mo_law, .int mo_many, .int mo_asked, .int mo_looksAll, .int mo_changes, .int mo_rowsRead, .ref mkeys, .ref mvalues, .ref mheights, .ref mheats, .int mo_secondMany, .ref msecondKeys, .ref msecondValues, .ref msecondHeights, .ref msecondHeats, .int mo_foundAt_14, .int mo_foundLooks_14, .int mo_foundLane_14, .int mo_bestsDone, .ref msaved, .ref mbestHeights, .int mo_seenMany, .ref msights, .ref mby, .int mo_seedNow, .int mo_keptRow, .int mo_keptMany, .int mo_keptSecond, .int mo_keptAsked, .int mo_keptLooks, .int mo_keptChanges, .int mo_keptSeen, .ref mkeptKeys, .ref mkeptValues, .ref mkeptHeights, .ref mkeptHeats, .ref mkeptKeys2, .ref mkeptValues2, .ref mkeptHeights2, .ref mkeptHeats2, .ref mkeptSights, .long mo_hash])), (mkeys, .inl (cy, 8, .inl mkeys_a)), (mheights, .inl (cy, 8, .inl mheights_a)), (mby, .inl (cy, 5, .inl mby_a_14))]) (wr := [(msights, .inl (cy, 18, .inl msights_a))]) (n := 3) ⟨hx, hb, hml, hown, htb⟩ (c_X12_worstBy l D cy mo mpage mkeys mvalues mheights mheats msecondKeys msecondValues msecondHeights msecondHeats msaved mbestHeights msights mby mkeptKeys mkeptValues mkeptHeights mkeptHeats mkeptKeys2 mkeptValues2 mkeptHeights2 mkeptHeats2 mkeptSights mo_pageMany mo_law mo_many mo_asked mo_looksAll mo_changes mo_rowsRead mo_secondMany mo_foundAt_14 mo_foundLooks_14 mo_foundLane_14 mo_bestsDone mo_seenMany mo_seedNow mo_keptRow mo_keptMany mo_keptSecond mo_keptAsked mo_keptLooks mo_keptChanges mo_keptSeen mo_hash mkeys_a mheights_a mby_a_14 a r_1 x5_14 (show 0 ≤ mo_pageMany.toInt ∧ mo_pageMany.toInt ≤ 44 from by omega) (show 0 ≤ mo_many.toInt ∧ mo_many.toInt ≤ 8 from by omega) (show 0 ≤ mo_secondMany.toInt ∧ mo_secondMany.toInt ≤ 8 from by omega) (show (-1) ≤ mo_foundAt_14.toInt ∧ mo_foundAt_14.toInt ≤ 7 from by omega) (show 0 ≤ mo_seenMany.toInt ∧ mo_seenMany.toInt ≤ 6 from by omega) (show 0 ≤ mo_keptMany.toInt ∧ mo_keptMany.toInt ≤ 8 from by omega) (show 0 ≤ mo_keptSecond.toInt ∧ mo_keptSecond.toInt ≤ 8 from by omega) (show 0 ≤ mo_keptSeen.toInt ∧ mo_keptSeen.toInt ≤ 6 from by omega) (show 0 ≤ a.toInt ∧ a.toInt ≤ 7 from by omega)) tw_1054 tw_1051 tw_1053 tw_44 tw_71 rfl rfl (by decide +kernel) ⟨Nat.le_of_ble_eq_true rfl, Nat.le_of_ble_eq_true rfl⟩ hK hP hD hS hA [1, 2, 3, 0] [4] rfl rfl rfl rfl (by decide) 0 (ci := 12) rfl rfl rfl hl.1 rfl (Nat.le_of_ble_eq_true rfl) dX12_tryOf_30 ⟨Nat.le_of_ble_eq_true rfl, Nat.le_of_ble_eq_true rfl⟩ (fun r_10 u_11 H locs hw_12 hP hD hS => ?_)
          refine W.widen (k := 0) (n := 0) (by decide) (by decide) ?_
          obtain ⟨o_13, o_14, o_15, o_16⟩ := u_11
          have k_17 := hw_12
          have k_17 : ((-1) ≤ o_13.toInt ∧ o_13.toInt ≤ 7) := k_17
          have hP : va_P D classes [(msights, .inl (cy, 18, .inl msights_a)), (mo, .inr (12, [.ref mpage, .int mo_pageMany, .int mo_law, .int mo_many, .int mo_asked, .int mo_looksAll, .int mo_changes, .int mo_rowsRead, .ref mkeys, .ref mvalues, .ref mheights, .ref mheats, .int mo_secondMany, .ref msecondKeys, .ref msecondValues, .ref msecondHeights, .ref msecondHeats, .int o_13, .int o_14, .int o_15, .int mo_bestsDone, .ref msaved, .ref mbestHeights, .int mo_seenMany, .ref msights, .ref mby, .int mo_seedNow, .int mo_keptRow, .int mo_keptMany, .int mo_keptSecond, .int mo_keptAsked, .int mo_keptLooks, .int mo_keptChanges, .int mo_keptSeen, .ref mkeptKeys, .ref mkeptValues, .ref mkeptHeights, .ref mkeptHeats, .ref mkeptKeys2, .ref mkeptValues2, .ref mkeptHeights2, .ref mkeptHeats2, .ref mkeptSights, .long mo_hash])), (mkeys, .inl (cy, 8, .inl mkeys_a)), (mheights, .inl (cy, 8, .inl mheights_a)), (mby, .inl (cy, 5, .inl o_16))] H := hP
          have hD : va_D A [(msights, .inl (cy, 18, .inl msights_a)), (mo, .inr (12, [.ref mpage, .int mo_pageMany, .int mo_law, .int mo_many, .int mo_asked, .int mo_looksAll, .int mo_changes, .int mo_rowsRead, .ref mkeys, .ref mvalues, .ref mheights, .ref mheats, .int mo_secondMany, .ref msecondKeys, .ref msecondValues, .ref msecondHeights, .ref msecondHeats, .int o_13, .int o_14, .int o_15, .int mo_bestsDone, .ref msaved, .ref mbestHeights, .int mo_seenMany, .ref msights, .ref mby, .int mo_seedNow, .int mo_keptRow, .int mo_keptMany, .int mo_keptSecond, .int mo_keptAsked, .int mo_keptLooks, .int mo_keptChanges, .int mo_keptSeen, .ref mkeptKeys, .ref mkeptValues, .ref mkeptHeights, .ref mkeptHeats, .ref mkeptKeys2, .ref mkeptValues2, .ref mkeptHeights2, .ref mkeptHeats2, .ref mkeptSights, .long mo_hash])), (mkeys, .inl (cy, 8, .inl mkeys_a)), (mheights, .inl (cy, 8, .inl mheights_a)), (mby, .inl (cy, 5, .inl o_16))] := hD
          refine lv_istore (lv' := [(6, .int r_10), (5, .int x5_14), (4, .int x4_14), (3, .int x3_14), (2, .int r_1), (0, .ref mo), (1, .int a)]) hx hb dX12_tryOf_33 hl (by decide) rfl (fun ls hl => ?_)
          refine lv_iload hx hb dX12_tryOf_35 (lv_at hl 0 rfl) ?_
          refine lv_iload hx hb dX12_tryOf_37 (lv_at hl 2 rfl) ?_
          refine lv_icmp_ge (tgt := 47) hx hb dX12_tryOf_39 (by decide) (fun c_18 => ?_) (fun c_18 => ?_)
          · have k_18 : x4_14.toInt ≤ r_10.toInt := wk_le c_18
            refine lv_iload_n hx hb dX12_tryOf_47 rfl (lv_at hl 3 rfl) ?_
            refine lv_istore_n (lv' := [(3, .int x3_14), (6, .int r_10), (5, .int x5_14), (4, .int x4_14), (2, .int r_1), (0, .ref mo), (1, .int a)]) hx hb dX12_tryOf_48 rfl hl (by decide) rfl (fun ls hl => ?_)
            refine lv_iload hx hb dX12_tryOf_49 (lv_at hl 1 rfl) ?_
            refine lv_iload hx hb dX12_tryOf_51 (lv_at hl 3 rfl) ?_
            refine lv_icmp_ge (tgt := 61) hx hb dX12_tryOf_53 (by decide) (fun c_19 => ?_) (fun c_19 => ?_)
            · have k_19 : x4_14.toInt ≤ r_10.toInt := wk_le c_19
              refine lv_iload hx hb dX12_tryOf_61 (lv_at hl 3 rfl) ?_
              refine lv_istore (lv' := [(4, .int x4_14), (3, .int x3_14), (6, .int r_10), (5, .int x5_14), (2, .int r_1), (0, .ref mo), (1, .int a)]) hx hb dX12_tryOf_63 hl (by decide) rfl (fun ls hl => ?_)
              refine lv_iinc (v := (x5_14 + 1)) (lv' := [(5, .int (x5_14 + 1)), (4, .int x4_14), (3, .int x3_14), (6, .int r_10), (2, .int r_1), (0, .ref mo), (1, .int a)]) hx hb dX12_tryOf_65 hl (k := 3) rfl rfl (by decide) rfl (fun ls hl => ?_)
              have k_20 : (x5_14 + 1).toInt = x5_14.toInt + 1 := wk_add x5_14.toInt 1 rfl rfl (by omega) (by omega)
              refine lv_goto (tgt := 14) hx hb dX12_tryOf_68 (by decide) ?_
              exact ih_14 x3_14 x4_14 (x5_14 + 1) o_13 o_14 o_15 o_16 _ _ _ (show 0 ≤ (x5_14 + 1).toInt ∧ (x5_14 + 1).toInt ≤ 100 from by omega) (show (-1) ≤ o_13.toInt ∧ o_13.toInt ≤ 7 from by omega) (show 100 - (x5_14 + 1).toInt < ((fu_14 : Nat) : Int) from by omega) (wk_sub9 (is := [4, 1, 2, 3, 0]) hP rfl) (hD.sub [4, 1, 2, 3, 0] rfl rfl) hS (lv_sub hl [0, 1, 2, 4, 5, 6] rfl)
            · have k_19 : ¬ x4_14.toInt ≤ r_10.toInt := wk_nle c_19
              refine lv_iload hx hb dX12_tryOf_56 (lv_at hl 1 rfl) ?_
              refine lv_goto (tgt := 63) hx hb dX12_tryOf_58 (by decide) ?_
              refine lv_istore (lv' := [(4, .int r_10), (3, .int x3_14), (6, .int r_10), (5, .int x5_14), (2, .int r_1), (0, .ref mo), (1, .int a)]) hx hb dX12_tryOf_63 hl (by decide) rfl (fun ls hl => ?_)
              refine lv_iinc (v := (x5_14 + 1)) (lv' := [(5, .int (x5_14 + 1)), (4, .int r_10), (3, .int x3_14), (6, .int r_10), (2, .int r_1), (0, .ref mo), (1, .int a)]) hx hb dX12_tryOf_65 hl (k := 3) rfl rfl (by decide) rfl (fun ls hl => ?_)
              have k_21 : (x5_14 + 1).toInt = x5_14.toInt + 1 := wk_add x5_14.toInt 1 rfl rfl (by omega) (by omega)
              refine lv_goto (tgt := 14) hx hb dX12_tryOf_68 (by decide) ?_
              exact ih_14 x3_14 r_10 (x5_14 + 1) o_13 o_14 o_15 o_16 _ _ _ (show 0 ≤ (x5_14 + 1).toInt ∧ (x5_14 + 1).toInt ≤ 100 from by omega) (show (-1) ≤ o_13.toInt ∧ o_13.toInt ≤ 7 from by omega) (show 100 - (x5_14 + 1).toInt < ((fu_14 : Nat) : Int) from by omega) (wk_sub9 (is := [4, 1, 2, 3, 0]) hP rfl) (hD.sub [4, 1, 2, 3, 0] rfl rfl) hS (lv_sub hl [0, 1, 2, 4, 5, 6] rfl)
          · have k_18 : ¬ x4_14.toInt ≤ r_10.toInt := wk_nle c_18
            refine lv_iload hx hb dX12_tryOf_42 (lv_at hl 1 rfl) ?_
            refine lv_goto (tgt := 48) hx hb dX12_tryOf_44 (by decide) ?_
            refine lv_istore_n (lv' := [(3, .int x5_14), (6, .int r_10), (5, .int x5_14), (4, .int x4_14), (2, .int r_1), (0, .ref mo), (1, .int a)]) hx hb dX12_tryOf_48 rfl hl (by decide) rfl (fun ls hl => ?_)
            refine lv_iload hx hb dX12_tryOf_49 (lv_at hl 1 rfl) ?_
            refine lv_iload hx hb dX12_tryOf_51 (lv_at hl 3 rfl) ?_
            refine lv_icmp_ge (tgt := 61) hx hb dX12_tryOf_53 (by decide) (fun c_22 => ?_) (fun c_22 => ?_)
            · have k_22 : x4_14.toInt ≤ r_10.toInt := wk_le c_22
              refine lv_iload hx hb dX12_tryOf_61 (lv_at hl 3 rfl) ?_
              refine lv_istore (lv' := [(4, .int x4_14), (3, .int x5_14), (6, .int r_10), (5, .int x5_14), (2, .int r_1), (0, .ref mo), (1, .int a)]) hx hb dX12_tryOf_63 hl (by decide) rfl (fun ls hl => ?_)
              refine lv_iinc (v := (x5_14 + 1)) (lv' := [(5, .int (x5_14 + 1)), (4, .int x4_14), (3, .int x5_14), (6, .int r_10), (2, .int r_1), (0, .ref mo), (1, .int a)]) hx hb dX12_tryOf_65 hl (k := 3) rfl rfl (by decide) rfl (fun ls hl => ?_)
              have k_23 : (x5_14 + 1).toInt = x5_14.toInt + 1 := wk_add x5_14.toInt 1 rfl rfl (by omega) (by omega)
              refine lv_goto (tgt := 14) hx hb dX12_tryOf_68 (by decide) ?_
              exact ih_14 x5_14 x4_14 (x5_14 + 1) o_13 o_14 o_15 o_16 _ _ _ (show 0 ≤ (x5_14 + 1).toInt ∧ (x5_14 + 1).toInt ≤ 100 from by omega) (show (-1) ≤ o_13.toInt ∧ o_13.toInt ≤ 7 from by omega) (show 100 - (x5_14 + 1).toInt < ((fu_14 : Nat) : Int) from by omega) (wk_sub9 (is := [4, 1, 2, 3, 0]) hP rfl) (hD.sub [4, 1, 2, 3, 0] rfl rfl) hS (lv_sub hl [0, 1, 2, 4, 5, 6] rfl)
            · have k_22 : ¬ x4_14.toInt ≤ r_10.toInt := wk_nle c_22
              refine lv_iload hx hb dX12_tryOf_56 (lv_at hl 1 rfl) ?_
              refine lv_goto (tgt := 63) hx hb dX12_tryOf_58 (by decide) ?_
              refine lv_istore (lv' := [(4, .int r_10), (3, .int x5_14), (6, .int r_10), (5, .int x5_14), (2, .int r_1), (0, .ref mo), (1, .int a)]) hx hb dX12_tryOf_63 hl (by decide) rfl (fun ls hl => ?_)
              refine lv_iinc (v := (x5_14 + 1)) (lv' := [(5, .int (x5_14 + 1)), (4, .int r_10), (3, .int x5_14), (6, .int r_10), (2, .int r_1), (0, .ref mo), (1, .int a)]) hx hb dX12_tryOf_65 hl (k := 3) rfl rfl (by decide) rfl (fun ls hl => ?_)
              have k_24 : (x5_14 + 1).toInt = x5_14.toInt + 1 := wk_add x5_14.toInt 1 rfl rfl (by omega) (by omega)
              refine lv_goto (tgt := 14) hx hb dX12_tryOf_68 (by decide) ?_
              exact ih_14 x5_14 r_10 (x5_14 + 1) o_13 o_14 o_15 o_16 _ _ _ (show 0 ≤ (x5_14 + 1).toInt ∧ (x5_14 + 1).toInt ≤ 100 from by omega) (show (-1) ≤ o_13.toInt ∧ o_13.toInt ≤ 7 from by omega) (show 100 - (x5_14 + 1).toInt < ((fu_14 : Nat) : Int) from by omega) (wk_sub9 (is := [4, 1, 2, 3, 0]) hP rfl) (hD.sub [4, 1, 2, 3, 0] rfl rfl) hS (lv_sub hl [0, 1, 2, 4, 5, 6] rfl)
  exact hlp_14 102 (-1) 5 0 o_4 o_5 o_6 mby_a _ _ _ (show 0 ≤ 0 ∧ 0 ≤ 100 from by omega) (show (-1) ≤ o_4.toInt ∧ o_4.toInt ≤ 7 from by omega) (show 100 - 0 < ((102 : Nat) : Int) from by omega) hP hD hS (lv_sub hl [0, 1, 2, 3, 4, 5] rfl)
