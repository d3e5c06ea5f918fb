def fn_X12_wide (mpage_a : Nat → Int32) : Int32 := (if (mpage_a (0 : Int32).toNatClampNeg) = 116 then 5 else 4)
theorem dX12_wide_0 : decode cX12_wide 0 = .ok (.aload_n 0, 1) := by decide +kernel
theorem dX12_wide_1 : decode cX12_wide 1 = .ok (.getfield 7, 3) := by decide +kernel
theorem dX12_wide_4 : decode cX12_wide 4 = .ok (.iconst 0, 1) := by decide +kernel
theorem dX12_wide_5 : decode cX12_wide 5 = .ok (.iaload, 1) := by decide +kernel
theorem dX12_wide_6 : decode cX12_wide 6 = .ok (.bipush 116, 2) := by decide +kernel
theorem dX12_wide_8 : decode cX12_wide 8 = .ok (.if_icmp .ne 7, 3) := by decide +kernel
theorem dX12_wide_11 : decode cX12_wide 11 = .ok (.iconst 5, 1) := by decide +kernel
theorem dX12_wide_12 : decode cX12_wide 12 = .ok (.goto 4, 3) := by decide +kernel
theorem dX12_wide_15 : decode cX12_wide 15 = .ok (.iconst 4, 1) := by decide +kernel
theorem dX12_wide_16 : decode cX12_wide 16 = .ok (.ireturn, 1) := by decide +kernel
set_option maxHeartbeats 4000000 in
set_option maxRecDepth 100000 in
theorem c_X12_wide (l : Launch) (D : va_G) (cy : ClassId) (mo mpage mkeys mvalues mheights mheats msecondKeys msecondValues msecondHeights msecondHeats msaved mbestHeights msights mby mkeptKeys mkeptValues mkeptHeights mkeptHeats mkeptKeys2 mkeptValues2 mkeptHeights2 mkeptHeats2 mkeptSights : Nat) (mo_pageMany : Int32) (mo_law : Int32) (mo_many : Int32) (mo_asked : Int32) (mo_looksAll : Int32) (mo_changes : Int32) (mo_rowsRead : Int32) (mo_secondMany : Int32) (mo_foundAt : Int32) (mo_foundLooks : Int32) (mo_foundLane : Int32) (mo_bestsDone : Int32) (mo_seenMany : Int32) (mo_seedNow : Int32) (mo_keptRow : Int32) (mo_keptMany : Int32) (mo_keptSecond : Int32) (mo_keptAsked : Int32) (mo_keptLooks : Int32) (mo_keptChanges : Int32) (mo_keptSeen : Int32) (mo_hash : Int64) (mpage_a : Nat → Int32)  (g_0 : 0 ≤ mo_pageMany.toInt ∧ mo_pageMany.toInt ≤ 44) (g_1 : 0 ≤ mo_many.toInt ∧ mo_many.toInt ≤ 8) (g_2 : 0 ≤ mo_secondMany.toInt ∧ mo_secondMany.toInt ≤ 8) (g_3 : (-1) ≤ mo_foundAt.toInt ∧ mo_foundAt.toInt ≤ 7) (g_4 : 0 ≤ mo_seenMany.toInt ∧ mo_seenMany.toInt ≤ 6) (g_5 : 0 ≤ mo_keptMany.toInt ∧ mo_keptMany.toInt ≤ 8) (g_6 : 0 ≤ mo_keptSecond.toInt ∧ mo_keptSecond.toInt ≤ 8) (g_7 : 0 ≤ mo_keptSeen.toInt ∧ mo_keptSeen.toInt ≤ 6) : wk_Ci l yX12_wide cX12_wide 1 (some .int) { frames := 0, cells := 0, slots := 0, locals := 0 } D cy [.ref mo] [(mo, .inr (12, [.ref mpage, .int mo_pageMany, .int mo_law, .int mo_many, .int mo_asked, .int mo_looksAll, .int mo_changes, .int mo_rowsRead, .ref mkeys, .ref mvalues, .ref mheights, .ref mheats, .int mo_secondMany, .ref msecondKeys, .ref msecondValues, .ref msecondHeights, .ref msecondHeats, .int mo_foundAt, .int mo_foundLooks, .int mo_foundLane, .int mo_bestsDone, .ref msaved, .ref mbestHeights, .int mo_seenMany, .ref msights, .ref mby, .int mo_seedNow, .int mo_keptRow, .int mo_keptMany, .int mo_keptSecond, .int mo_keptAsked, .int mo_keptLooks, .int mo_keptChanges, .int mo_keptSeen, .ref mkeptKeys, .ref mkeptValues, .ref mkeptHeights, .ref mkeptHeats, .ref mkeptKeys2, .ref mkeptValues2, .ref mkeptHeights2, .ref mkeptHeats2, .ref mkeptSights, .long mo_hash])), (mpage, .inl (cy, 44, .inl mpage_a))] 0 0 (fun (r : Int32) (u : Unit) => r = (fn_X12_wide mpage_a) ∧ (4 ≤ r.toInt ∧ r.toInt ≤ 5)) (fun u => [(mo, .inr (12, [.ref mpage, .int mo_pageMany, .int mo_law, .int mo_many, .int mo_asked, .int mo_looksAll, .int mo_changes, .int mo_rowsRead, .ref mkeys, .ref mvalues, .ref mheights, .ref mheats, .int mo_secondMany, .ref msecondKeys, .ref msecondValues, .ref msecondHeights, .ref msecondHeats, .int mo_foundAt, .int mo_foundLooks, .int mo_foundLane, .int mo_bestsDone, .ref msaved, .ref mbestHeights, .int mo_seenMany, .ref msights, .ref mby, .int mo_seedNow, .int mo_keptRow, .int mo_keptMany, .int mo_keptSecond, .int mo_keptAsked, .int mo_keptLooks, .int mo_keptChanges, .int mo_keptSeen, .ref mkeptKeys, .ref mkeptValues, .ref mkeptHeights, .ref mkeptHeats, .ref mkeptKeys2, .ref mkeptValues2, .ref mkeptHeights2, .ref mkeptHeats2, .ref mkeptSights, .long mo_hash])), (mpage, .inl (cy, 44, .inl mpage_a))]) := by
  refine wk_mk2Ci (by decide) (Nat.le_of_ble_eq_true rfl) ?_
  intro p e s m args below meth c A ls Q B hA hK hP hD hS hl hret
  obtain ⟨hx, hb, hr, hlocks, hml, hown, htb, hin⟩ := B
  have hl : lv_has ls 1 [(0, .ref mo)] := hl
  have hF : (fn_X12_wide mpage_a) = (fn_X12_wide mpage_a) := rfl
  conv at hF => rhs; unfold fn_X12_wide
  refine lv_aload_n hx hb dX12_wide_0 rfl (lv_at hl 0 rfl) ?_
  refine va_get (D := D) (ci := 12) (v := .ref mpage) (C := RX12) (T := TX12) (N := 44) hx hb htb inX12 hown hK hP 0 rfl rfl 0 (by decide) (htb _ tw_763) (fun _ h9 => h9) rfl dX12_wide_1 ?_
  refine lv_iconst (v := 0) hx hb dX12_wide_4 (by decide) ?_
  refine va_iald hx hb hK hP 1 0 rfl rfl (show vp_in 0 44 from vp_in_iff.mpr (show 0 ≤ 0 ∧ 0 < ((44 : Nat) : Int) from by omega)) dX12_wide_5 ?_
  refine lv_bipush (v := 116) hx hb dX12_wide_6 (by decide) ?_
  refine lv_icmp_ne (tgt := 15) hx hb dX12_wide_8 (by decide) (fun c_1 => ?_) (fun c_1 => ?_)
  · have k_1 : ¬ (mpage_a (0 : Int32).toNatClampNeg).toInt = 116 := wk_neq c_1
    replace hF := hF.trans (if_neg c_1)
    refine lv_iconst (v := 4) hx hb dX12_wide_15 (by decide) ?_
    refine W.widen (k := 0) (n := 0) (by decide) (by decide) ?_
    exact hret 4 () _ _ _ 16 (wk_sub9 (is := [0, 1]) hP rfl) (hD.sub [0, 1] rfl rfl) hS dX12_wide_16 ⟨hF.symm, (show (4 ≤ 4 ∧ 4 ≤ 5) from by omega)⟩
  · have k_1 : (mpage_a (0 : Int32).toNatClampNeg).toInt = 116 := wk_eq c_1
    replace hF := hF.trans (if_pos c_1)
    refine lv_iconst (v := 5) hx hb dX12_wide_11 (by decide) ?_
    refine lv_goto (tgt := 16) hx hb dX12_wide_12 (by decide) ?_
    refine W.widen (k := 0) (n := 0) (by decide) (by decide) ?_
    exact hret 5 () _ _ _ 16 (wk_sub9 (is := [0, 1]) hP rfl) (hD.sub [0, 1] rfl rfl) hS dX12_wide_16 ⟨hF.symm, (show (4 ≤ 5 ∧ 5 ≤ 5) from by omega)⟩
def fn_X12_keyAt (mpage_a : Nat → Int32) (a : Int32) : Int32 := (((10 * ((mpage_a a.toNatClampNeg) - 48)) + (mpage_a (a + 1).toNatClampNeg)) - 48)
theorem dX12_keyAt_0 : decode cX12_keyAt 0 = .ok (.bipush 10, 2) := by decide +kernel
theorem dX12_keyAt_2 : decode cX12_keyAt 2 = .ok (.aload_n 0, 1) := by decide +kernel
theorem dX12_keyAt_3 : decode cX12_keyAt 3 = .ok (.getfield 7, 3) := by decide +kernel
theorem dX12_keyAt_6 : decode cX12_keyAt 6 = .ok (.iload_n 1, 1) := by decide +kernel
theorem dX12_keyAt_7 : decode cX12_keyAt 7 = .ok (.iaload, 1) := by decide +kernel
theorem dX12_keyAt_8 : decode cX12_keyAt 8 = .ok (.bipush 48, 2) := by decide +kernel
theorem dX12_keyAt_10 : decode cX12_keyAt 10 = .ok (.isub, 1) := by decide +kernel
theorem dX12_keyAt_11 : decode cX12_keyAt 11 = .ok (.imul, 1) := by decide +kernel
theorem dX12_keyAt_12 : decode cX12_keyAt 12 = .ok (.aload_n 0, 1) := by decide +kernel
theorem dX12_keyAt_13 : decode cX12_keyAt 13 = .ok (.getfield 7, 3) := by decide +kernel
theorem dX12_keyAt_16 : decode cX12_keyAt 16 = .ok (.iload_n 1, 1) := by decide +kernel
theorem dX12_keyAt_17 : decode cX12_keyAt 17 = .ok (.iconst 1, 1) := by decide +kernel
theorem dX12_keyAt_18 : decode cX12_keyAt 18 = .ok (.iadd, 1) := by decide +kernel
theorem dX12_keyAt_19 : decode cX12_keyAt 19 = .ok (.iaload, 1) := by decide +kernel
theorem dX12_keyAt_20 : decode cX12_keyAt 20 = .ok (.iadd, 1) := by decide +kernel
theorem dX12_keyAt_21 : decode cX12_keyAt 21 = .ok (.bipush 48, 2) := by decide +kernel
theorem dX12_keyAt_23 : decode cX12_keyAt 23 = .ok (.isub, 1) := by decide +kernel
theorem dX12_keyAt_24 : decode cX12_keyAt 24 = .ok (.ireturn, 1) := by decide +kernel
set_option maxHeartbeats 4000000 in
set_option maxRecDepth 100000 in
theorem c_X12_keyAt (l : Launch) (D : va_G) (cy : ClassId) (mo mpage mkeys mvalues mheights mheats msecondKeys msecondValues msecondHeights msecondHeats msaved mbestHeights msights mby mkeptKeys mkeptValues mkeptHeights mkeptHeats mkeptKeys2 mkeptValues2 mkeptHeights2 mkeptHeats2 mkeptSights : Nat) (mo_pageMany : Int32) (mo_law : Int32) (mo_many : Int32) (mo_asked : Int32) (mo_looksAll : Int32) (mo_changes : Int32) (mo_rowsRead : Int32) (mo_secondMany : Int32) (mo_foundAt : Int32) (mo_foundLooks : Int32) (mo_foundLane : Int32) (mo_bestsDone : Int32) (mo_seenMany : Int32) (mo_seedNow : Int32) (mo_keptRow : Int32) (mo_keptMany : Int32) (mo_keptSecond : Int32) (mo_keptAsked : Int32) (mo_keptLooks : Int32) (mo_keptChanges : Int32) (mo_keptSeen : Int32) (mo_hash : Int64) (mpage_a : Nat → Int32) (a : Int32) (g_0 : 0 ≤ mo_pageMany.toInt ∧ mo_pageMany.toInt ≤ 44) (g_1 : 0 ≤ mo_many.toInt ∧ mo_many.toInt ≤ 8) (g_2 : 0 ≤ mo_secondMany.toInt ∧ mo_secondMany.toInt ≤ 8) (g_3 : (-1) ≤ mo_foundAt.toInt ∧ mo_foundAt.toInt ≤ 7) (g_4 : 0 ≤ mo_seenMany.toInt ∧ mo_seenMany.toInt ≤ 6) (g_5 : 0 ≤ mo_keptMany.toInt ∧ mo_keptMany.toInt ≤ 8) (g_6 : 0 ≤ mo_keptSecond.toInt ∧ mo_keptSecond.toInt ≤ 8) (g_7 : 0 ≤ mo_keptSeen.toInt ∧ mo_keptSeen.toInt ≤ 6) (g_8 : 0 ≤ a.toInt ∧ a.toInt ≤ 42) : wk_Ci l yX12_keyAt cX12_keyAt 2 (some .int) { frames := 0, cells := 0, slots := 0, locals := 0 } D cy [.ref mo, .int a] [(mo, .inr (12, [.ref mpage, .int mo_pageMany, .int mo_law, .int mo_many, .int mo_asked, .int mo_looksAll, .int mo_changes, .int mo_rowsRead, .ref mkeys, .ref mvalues, .ref mheights, .ref mheats, .int mo_secondMany, .ref msecondKeys, .ref msecondValues, .ref msecondHeights, .ref msecondHeats, .int mo_foundAt, .int mo_foundLooks, .int mo_foundLane, .int mo_bestsDone, .ref msaved, .ref mbestHeights, .int mo_seenMany, .ref msights, .ref mby, .int mo_seedNow, .int mo_keptRow, .int mo_keptMany, .int mo_keptSecond, .int mo_keptAsked, .int mo_keptLooks, .int mo_keptChanges, .int mo_keptSeen, .ref mkeptKeys, .ref mkeptValues, .ref mkeptHeights, .ref mkeptHeats, .ref mkeptKeys2, .ref mkeptValues2, .ref mkeptHeights2, .ref mkeptHeats2, .ref mkeptSights, .long mo_hash])), (mpage, .inl (cy, 44, .inl mpage_a))] 0 0 (fun (r : Int32) (u : Unit) => r = (fn_X12_keyAt mpage_a a)) (fun u => [(mo, .inr (12, [.ref mpage, .int mo_pageMany, .int mo_law, .int mo_many, .int mo_asked, .int mo_looksAll, .int mo_changes, .int mo_rowsRead, .ref mkeys, .ref mvalues, .ref mheights, .ref mheats, .int mo_secondMany, .ref msecondKeys, .ref msecondValues, .ref msecondHeights, .ref msecondHeats, .int mo_foundAt, .int mo_foundLooks, .int mo_foundLane, .int mo_bestsDone, .ref msaved, .ref mbestHeights, .int mo_seenMany, .ref msights, .ref mby, .int mo_seedNow, .int mo_keptRow, .int mo_keptMany, .int mo_keptSecond, .int mo_keptAsked, .int mo_keptLooks, .int mo_keptChanges, .int mo_keptSeen, .ref mkeptKeys, .ref mkeptValues, .ref mkeptHeights, .ref mkeptHeats, .ref mkeptKeys2, .ref mkeptValues2, .ref mkeptHeights2, .ref mkeptHeats2, .ref mkeptSights, .long mo_hash])), (mpage, .inl (cy, 44, .inl mpage_a))]) := by
  refine wk_mk2Ci (by decide) (Nat.le_of_ble_eq_true rfl) ?_
  intro p e s m args below meth c A ls Q B hA hK hP hD hS hl hret
  obtain ⟨hx, hb, hr, hlocks, hml, hown, htb, hin⟩ := B
  have hl : lv_has ls 2 [(0, .ref mo), (1, .int a)] := hl
  have hF : (fn_X12_keyAt mpage_a a) = (fn_X12_keyAt mpage_a a) := rfl
  conv at hF => rhs; unfold fn_X12_keyAt
  refine lv_bipush (v := 10) hx hb dX12_keyAt_0 (by decide) ?_
  refine lv_aload_n hx hb dX12_keyAt_2 rfl (lv_at hl 0 rfl) ?_
  refine va_get (D := D) (ci := 12) (v := .ref mpage) (C := RX12) (T := TX12) (N := 44) hx hb htb inX12 hown hK hP 0 rfl rfl 0 (by decide) (htb _ tw_763) (fun _ h9 => h9) rfl dX12_keyAt_3 ?_
  refine lv_iload_n hx hb dX12_keyAt_6 rfl (lv_at hl 1 rfl) ?_
  refine va_iald hx hb hK hP 1 0 rfl rfl (show vp_in a 44 from vp_in_iff.mpr (show 0 ≤ a.toInt ∧ a.toInt < ((44 : Nat) : Int) from by omega)) dX12_keyAt_7 ?_
  refine lv_bipush (v := 48) hx hb dX12_keyAt_8 (by decide) ?_
  refine lv_isub hx hb dX12_keyAt_10 ?_
  refine lv_imul hx hb dX12_keyAt_11 ?_
  refine lv_aload_n hx hb dX12_keyAt_12 rfl (lv_at hl 0 rfl) ?_
  refine va_get (D := D) (ci := 12) (v := .ref mpage) (C := RX12) (T := TX12) (N := 44) hx hb htb inX12 hown hK hP 0 rfl rfl 0 (by decide) (htb _ tw_763) (fun _ h9 => h9) rfl dX12_keyAt_13 ?_
  refine lv_iload_n hx hb dX12_keyAt_16 rfl (lv_at hl 1 rfl) ?_
  refine lv_iconst (v := 1) hx hb dX12_keyAt_17 (by decide) ?_
  refine lv_iadd hx hb dX12_keyAt_18 ?_
  have k_1 : (a + 1).toInt = a.toInt + 1 := wk_add a.toInt 1 rfl rfl (by omega) (by omega)
  refine va_iald hx hb hK hP 1 0 rfl rfl (show vp_in (a + 1) 44 from vp_in_iff.mpr (show 0 ≤ (a + 1).toInt ∧ (a + 1).toInt < ((44 : Nat) : Int) from by omega)) dX12_keyAt_19 ?_
  refine lv_iadd hx hb dX12_keyAt_20 ?_
  refine lv_bipush (v := 48) hx hb dX12_keyAt_21 (by decide) ?_
  refine lv_isub hx hb dX12_keyAt_23 ?_
  refine W.widen (k := 0) (n := 0) (by decide) (by decide) ?_
  exact hret (((10 * ((mpage_a a.toNatClampNeg) - 48)) + (mpage_a (a + 1).toNatClampNeg)) - 48) () _ _ _ 24 (wk_sub9 (is := [0, 1]) hP rfl) (hD.sub [0, 1] rfl rfl) hS dX12_keyAt_24 hF.symm
