def fn_X12_find (mo_many : Int32) (mo_foundAt : Int32) (mo_foundLooks : Int32) (mo_foundLane : Int32) (mkeys_a : Nat → Int32) (mvalues_a : Nat → Int32) (mheights_a : Nat → Int32) (a : Int32) (b : Int32) : Int32 × Int32 × Int32 × Int32 := (if (fn_X12_isKey a) = 0 then ((-102), mo_foundAt, mo_foundLooks, mo_foundLane) else (if (wk_in b.toInt64 0 3) = 0 then ((-102), mo_foundAt, mo_foundLooks, mo_foundLane) else (if (fn_X12_lacks mo_many) = 0 then (pm2 (fn_X12_lookFor mo_many mo_foundAt mo_foundLooks mo_foundLane mkeys_a mheights_a a) (fun o_26 t_ => (pm2 (t_) (fun o_27 o_28 => ((fn_X12_tellFound o_26 o_27 o_28 mvalues_a b), o_26, o_27, o_28))))) else ((-103), mo_foundAt, mo_foundLooks, mo_foundLane))))
theorem dX12_find_0 : decode cX12_find 0 = .ok (.iload_n 1, 1) := by decide +kernel
theorem dX12_find_1 : decode cX12_find 1 = .ok (.invokestatic 180, 3) := by decide +kernel
theorem dX12_find_4 : decode cX12_find 4 = .ok (.ifCond .eq 15, 3) := by decide +kernel
theorem dX12_find_7 : decode cX12_find 7 = .ok (.iload_n 2, 1) := by decide +kernel
theorem dX12_find_8 : decode cX12_find 8 = .ok (.i2l, 1) := by decide +kernel
theorem dX12_find_9 : decode cX12_find 9 = .ok (.lconst 0, 1) := by decide +kernel
theorem dX12_find_10 : decode cX12_find 10 = .ok (.ldc2_w 183, 3) := by decide +kernel
theorem dX12_find_13 : decode cX12_find 13 = .ok (.invokestatic 82, 3) := by decide +kernel
theorem dX12_find_16 : decode cX12_find 16 = .ok (.ifCond .ne 6, 3) := by decide +kernel
theorem dX12_find_19 : decode cX12_find 19 = .ok (.bipush (-102), 2) := by decide +kernel
theorem dX12_find_21 : decode cX12_find 21 = .ok (.ireturn, 1) := by decide +kernel
theorem dX12_find_22 : decode cX12_find 22 = .ok (.aload_n 0, 1) := by decide +kernel
theorem dX12_find_23 : decode cX12_find 23 = .ok (.invokevirtual 185, 3) := by decide +kernel
theorem dX12_find_26 : decode cX12_find 26 = .ok (.ifCond .eq 6, 3) := by decide +kernel
theorem dX12_find_29 : decode cX12_find 29 = .ok (.bipush (-103), 2) := by decide +kernel
theorem dX12_find_31 : decode cX12_find 31 = .ok (.ireturn, 1) := by decide +kernel
theorem dX12_find_32 : decode cX12_find 32 = .ok (.aload_n 0, 1) := by decide +kernel
theorem dX12_find_33 : decode cX12_find 33 = .ok (.iload_n 1, 1) := by decide +kernel
theorem dX12_find_34 : decode cX12_find 34 = .ok (.invokevirtual 174, 3) := by decide +kernel
theorem dX12_find_37 : decode cX12_find 37 = .ok (.aload_n 0, 1) := by decide +kernel
theorem dX12_find_38 : decode cX12_find 38 = .ok (.iload_n 2, 1) := by decide +kernel
theorem dX12_find_39 : decode cX12_find 39 = .ok (.invokevirtual 189, 3) := by decide +kernel
theorem dX12_find_42 : decode cX12_find 42 = .ok (.ireturn, 1) := by decide +kernel
set_option maxHeartbeats 4000000 in
set_option maxRecDepth 100000 in
theorem c_X12_find (l : Launch) (D : va_G) (cy : ClassId) (mo mpage mkeys mvalues mheights mheats msecondKeys msecondValues msecondHeights msecondHeats msaved mbestHeights msights mby mkeptKeys mkeptValues mkeptHeights mkeptHeats mkeptKeys2 mkeptValues2 mkeptHeights2 mkeptHeats2 mkeptSights : Nat) (mo_pageMany : Int32) (mo_law : Int32) (mo_many : Int32) (mo_asked : Int32) (mo_looksAll : Int32) (mo_changes : Int32) (mo_rowsRead : Int32) (mo_secondMany : Int32) (mo_foundAt : Int32) (mo_foundLooks : Int32) (mo_foundLane : Int32) (mo_bestsDone : Int32) (mo_seenMany : Int32) (mo_seedNow : Int32) (mo_keptRow : Int32) (mo_keptMany : Int32) (mo_keptSecond : Int32) (mo_keptAsked : Int32) (mo_keptLooks : Int32) (mo_keptChanges : Int32) (mo_keptSeen : Int32) (mo_hash : Int64) (mkeys_a : Nat → Int32) (mvalues_a : Nat → Int32) (mheights_a : Nat → Int32) (a : Int32) (b : Int32) (g_0 : 0 ≤ mo_pageMany.toInt ∧ mo_pageMany.toInt ≤ 44) (g_1 : 0 ≤ mo_many.toInt ∧ mo_many.toInt ≤ 8) (g_2 : 0 ≤ mo_secondMany.toInt ∧ mo_secondMany.toInt ≤ 8) (g_3 : (-1) ≤ mo_foundAt.toInt ∧ mo_foundAt.toInt ≤ 7) (g_4 : 0 ≤ mo_seenMany.toInt ∧ mo_seenMany.toInt ≤ 6) (g_5 : 0 ≤ mo_keptMany.toInt ∧ mo_keptMany.toInt ≤ 8) (g_6 : 0 ≤ mo_keptSecond.toInt ∧ mo_keptSecond.toInt ≤ 8) (g_7 : 0 ≤ mo_keptSeen.toInt ∧ mo_keptSeen.toInt ≤ 6) : wk_Ci l yX12_find cX12_find 3 (some .int) { frames := 3, cells := 0, slots := 0, locals := 71 } D cy [.ref mo, .int a, .int b] [(mo, .inr (12, [.ref mpage, .int mo_pageMany, .int mo_law, .int mo_many, .int mo_asked, .int mo_looksAll, .int mo_changes, .int mo_rowsRead, .ref mkeys, .ref mvalues, .ref mheights, .ref mheats, .int mo_secondMany, .ref msecondKeys, .ref msecondValues, .ref msecondHeights, .ref msecondHeats, .int mo_foundAt, .int mo_foundLooks, .int mo_foundLane, .int mo_bestsDone, .ref msaved, .ref mbestHeights, .int mo_seenMany, .ref msights, .ref mby, .int mo_seedNow, .int mo_keptRow, .int mo_keptMany, .int mo_keptSecond, .int mo_keptAsked, .int mo_keptLooks, .int mo_keptChanges, .int mo_keptSeen, .ref mkeptKeys, .ref mkeptValues, .ref mkeptHeights, .ref mkeptHeats, .ref mkeptKeys2, .ref mkeptValues2, .ref mkeptHeights2, .ref mkeptHeats2, .ref mkeptSights, .long mo_hash])), (mkeys, .inl (cy, 8, .inl mkeys_a)), (mvalues, .inl (cy, 8, .inl mvalues_a)), (mheights, .inl (cy, 8, .inl mheights_a))] 0 0 (fun (r : Int32) (u : Int32 × Int32 × Int32) => (r, u) = (fn_X12_find mo_many mo_foundAt mo_foundLooks mo_foundLane mkeys_a mvalues_a mheights_a a b) ∧ ((-1) ≤ u.1.toInt ∧ u.1.toInt ≤ 7)) (fun u => [(mo, .inr (12, [.ref mpage, .int mo_pageMany, .int mo_law, .int mo_many, .int mo_asked, .int mo_looksAll, .int mo_changes, .int mo_rowsRead, .ref mkeys, .ref mvalues, .ref mheights, .ref mheats, .int mo_secondMany, .ref msecondKeys, .ref msecondValues, .ref msecondHeights, .ref msecondHeats, .int u.1, .int u.2.1, .int u.2.2, .int mo_bestsDone, .ref msaved, .ref mbestHeights, .int mo_seenMany, .ref msights, .ref mby, .int mo_seedNow, .int mo_keptRow, .int mo_keptMany, .int mo_keptSecond, .int mo_keptAsked, .int mo_keptLooks, .int mo_keptChanges, .int mo_keptSeen, .ref mkeptKeys, .ref mkeptValues, .ref mkeptHeights, .ref mkeptHeats, .ref mkeptKeys2, .ref mkeptValues2, .ref mkeptHeights2, .ref mkeptHeats2, .ref mkeptSights, .long mo_hash])), (mkeys, .inl (cy, 8, .inl mkeys_a)), (mvalues, .inl (cy, 8, .inl mvalues_a)), (mheights, .inl (cy, 8, .inl mheights_a))]) := by
  refine wk_mk2Ci (by decide) (Nat.le_of_ble_eq_true rfl) ?_
  intro p e s m args below meth c A ls Q B hA hK hP hD hS hl hret
  obtain ⟨hx, hb, hr, hlocks, hml, hown, htb, hin⟩ := B
  have hl : lv_has ls 3 [(0, .ref mo), (1, .int a), (2, .int b)] := hl
  have hF : (fn_X12_find mo_many mo_foundAt mo_foundLooks mo_foundLane mkeys_a mvalues_a mheights_a a b) = (fn_X12_find mo_many mo_foundAt mo_foundLooks mo_foundLane mkeys_a mvalues_a mheights_a a b) := rfl
  conv at hF => rhs; unfold fn_X12_find
  refine lv_iload_n hx hb dX12_find_0 rfl (lv_at hl 1 rfl) ?_
  refine wk_iS (As := [.int a]) (rest := []) (wc := []) (wr := [(mo, .inr (12, [.ref mpage, .int mo_pageMany, .int mo_law, .int mo_many, .int mo_asked, .int mo_looksAll, .int mo_changes, .int mo_rowsRead, .ref mkeys, .ref mvalues, .ref mheights, .ref mheats, .int mo_secondMany, .ref msecondKeys, .ref msecondValues, .ref msecondHeights, .ref msecondHeats, .int mo_foundAt, .int mo_foundLooks, .int mo_foundLane, .int mo_bestsDone, .ref msaved, .ref mbestHeights, .int mo_seenMany, .ref msights, .ref mby, .int mo_seedNow, .int mo_keptRow, .int mo_keptMany, .int mo_keptSecond, .int mo_keptAsked, .int mo_keptLooks, .int mo_keptChanges, .int mo_keptSeen, .ref mkeptKeys, .ref mkeptValues, .ref mkeptHeights, .ref mkeptHeats, .ref mkeptKeys2, .ref mkeptValues2, .ref mkeptHeights2, .ref mkeptHeats2, .ref mkeptSights, .long mo_hash])), (mkeys, .inl (cy, 8, .inl mkeys_a)), (mvalues, .inl (cy, 8, .inl mvalues_a)), (mheights, .inl (cy, 8, .inl mheights_a))]) (n := 1) ⟨hx, hb, hml, hown, htb⟩ (c_X12_isKey l D cy   a ) tw_963 tw_961 tw_962 tw_71 rfl rfl (by decide +kernel) ⟨Nat.le_of_ble_eq_true rfl, Nat.le_of_ble_eq_true rfl⟩ hK hP hD hS hA [] [0, 1, 2, 3] rfl rfl rfl rfl (by decide) rfl hl.1 rfl (Nat.le_of_ble_eq_true rfl) dX12_find_1 ⟨Nat.le_of_ble_eq_true rfl, Nat.le_of_ble_eq_true rfl⟩ (fun r_1 u_2 H locs hw_3 hP hD hS => ?_)
  refine W.widen (k := 0) (n := 0) (by decide) (by decide) ?_
  obtain ⟨hw_3, k_4, k_5⟩ := hw_3
  have hw_3 : r_1 = (fn_X12_isKey a) := hw_3
  subst hw_3
  have k_4 : ((fn_X12_isKey a) = 0 ∨ (fn_X12_isKey a) = 1) := k_4
  have k_5 : ((fn_X12_isKey a).toInt = 0 ∨ (0 ≤ a.toInt ∧ a.toInt ≤ 99)) := k_5
  have k_6 : 0 ≤ (fn_X12_isKey a).toInt ∧ (fn_X12_isKey a).toInt ≤ 1 := wk_b01 (by assumption)
  have hP : va_P D classes [(mo, .inr (12, [.ref mpage, .int mo_pageMany, .int mo_law, .int mo_many, .int mo_asked, .int mo_looksAll, .int mo_changes, .int mo_rowsRead, .ref mkeys, .ref mvalues, .ref mheights, .ref mheats, .int mo_secondMany, .ref msecondKeys, .ref msecondValues, .ref msecondHeights, .ref msecondHeats, .int mo_foundAt, .int mo_foundLooks, .int mo_foundLane, .int mo_bestsDone, .ref msaved, .ref mbestHeights, .int mo_seenMany, .ref msights, .ref mby, .int mo_seedNow, .int mo_keptRow, .int mo_keptMany, .int mo_keptSecond, .int mo_keptAsked, .int mo_keptLooks, .int mo_keptChanges, .int mo_keptSeen, .ref mkeptKeys, .ref mkeptValues, .ref mkeptHeights, .ref mkeptHeats, .ref mkeptKeys2, .ref mkeptValues2, .ref mkeptHeights2, .ref mkeptHeats2, .ref mkeptSights, .long mo_hash])), (mkeys, .inl (cy, 8, .inl mkeys_a)), (mvalues, .inl (cy, 8, .inl mvalues_a)), (mheights, .inl (cy, 8, .inl mheights_a))] H := hP
  have hD : va_D A [(mo, .inr (12, [.ref mpage, .int mo_pageMany, .int mo_law, .int mo_many, .int mo_asked, .int mo_looksAll, .int mo_changes, .int mo_rowsRead, .ref mkeys, .ref mvalues, .ref mheights, .ref mheats, .int mo_secondMany, .ref msecondKeys, .ref msecondValues, .ref msecondHeights, .ref msecondHeats, .int mo_foundAt, .int mo_foundLooks, .int mo_foundLane, .int mo_bestsDone, .ref msaved, .ref mbestHeights, .int mo_seenMany, .ref msights, .ref mby, .int mo_seedNow, .int mo_keptRow, .int mo_keptMany, .int mo_keptSecond, .int mo_keptAsked, .int mo_keptLooks, .int mo_keptChanges, .int mo_keptSeen, .ref mkeptKeys, .ref mkeptValues, .ref mkeptHeights, .ref mkeptHeats, .ref mkeptKeys2, .ref mkeptValues2, .ref mkeptHeights2, .ref mkeptHeats2, .ref mkeptSights, .long mo_hash])), (mkeys, .inl (cy, 8, .inl mkeys_a)), (mvalues, .inl (cy, 8, .inl mvalues_a)), (mheights, .inl (cy, 8, .inl mheights_a))] := hD
  refine lv_if_eq (tgt := 19) hx hb dX12_find_4 (by decide) (fun c_7 => ?_) (fun c_7 => ?_)
  · have k_7 : (fn_X12_isKey a).toInt = 0 := wk_eq c_7
    rw [if_pos c_7] at hF
    refine lv_bipush (v := (-102)) hx hb dX12_find_19 (by decide) ?_
    refine W.widen (k := 0) (n := 0) (by decide) (by decide) ?_
    exact hret (-102) (mo_foundAt, mo_foundLooks, mo_foundLane) _ _ _ 21 (wk_sub9 (is := [0, 1, 2, 3]) hP rfl) (hD.sub [0, 1, 2, 3] rfl rfl) hS dX12_find_21 ⟨hF.symm, (show ((-1) ≤ mo_foundAt.toInt ∧ mo_foundAt.toInt ≤ 7) from by omega)⟩
  · have k_7 : ¬ (fn_X12_isKey a).toInt = 0 := wk_neq c_7
    rw [if_neg c_7] at hF
    refine lv_iload_n hx hb dX12_find_7 rfl (lv_at hl 2 rfl) ?_
    refine lv_i2l (v := b.toInt64) hx hb dX12_find_8 rfl ?_
    refine lv_lconst (v := 0) hx hb dX12_find_9 (by decide) ?_
    refine lv_ldc2 (v := 3) hx hb hown (htb _ tw_965) dX12_find_10 ?_
    refine wk_iS (As := [.long b.toInt64, .long 0, .long 3]) (rest := []) (wc := []) (wr := [(mo, .inr (12, [.ref mpage, .int mo_pageMany, .int mo_law, .int mo_many, .int mo_asked, .int mo_looksAll, .int mo_changes, .int mo_rowsRead, .ref mkeys, .ref mvalues, .ref mheights, .ref mheats, .int mo_secondMany, .ref msecondKeys, .ref msecondValues, .ref msecondHeights, .ref msecondHeats, .int mo_foundAt, .int mo_foundLooks, .int mo_foundLane, .int mo_bestsDone, .ref msaved, .ref mbestHeights, .int mo_seenMany, .ref msights, .ref mby, .int mo_seedNow, .int mo_keptRow, .int mo_keptMany, .int mo_keptSecond, .int mo_keptAsked, .int mo_keptLooks, .int mo_keptChanges, .int mo_keptSeen, .ref mkeptKeys, .ref mkeptValues, .ref mkeptHeights, .ref mkeptHeats, .ref mkeptKeys2, .ref mkeptValues2, .ref mkeptHeights2, .ref mkeptHeats2, .ref mkeptSights, .long mo_hash])), (mkeys, .inl (cy, 8, .inl mkeys_a)), (mvalues, .inl (cy, 8, .inl mvalues_a)), (mheights, .inl (cy, 8, .inl mheights_a))]) (n := 3) ⟨hx, hb, hml, hown, htb⟩ (c_X12_in l D cy   b.toInt64 0 3 ) tw_903 tw_901 tw_902 tw_71 rfl rfl (by decide +kernel) ⟨Nat.le_of_ble_eq_true rfl, Nat.le_of_ble_eq_true rfl⟩ hK hP hD hS hA [] [0, 1, 2, 3] rfl rfl rfl rfl (by decide) rfl hl.1 rfl (Nat.le_of_ble_eq_true rfl) dX12_find_13 ⟨Nat.le_of_ble_eq_true rfl, Nat.le_of_ble_eq_true rfl⟩ (fun r_8 u_9 H locs hw_10 hP hD hS => ?_)
    refine W.widen (k := 0) (n := 0) (by decide) (by decide) ?_
    obtain ⟨hw_10, k_11⟩ := hw_10
    have hw_10 : r_8 = (wk_in b.toInt64 0 3) := hw_10
    subst hw_10
    have k_11 : ((wk_in b.toInt64 0 3) = 0 ∨ (wk_in b.toInt64 0 3) = 1) := k_11
    have k_12 : 0 ≤ (wk_in b.toInt64 0 3).toInt ∧ (wk_in b.toInt64 0 3).toInt ≤ 1 := wk_b01 (by assumption)
    have k_13 : ((wk_in b.toInt64 0 3).toInt = 1 ∧ 0 ≤ b.toInt ∧ b.toInt ≤ 3) ∨ ((wk_in b.toInt64 0 3).toInt = 0 ∧ ¬ (0 ≤ b.toInt ∧ b.toInt ≤ 3)) := by have h9 := wk_inf b.toInt64 0 3; simp only [wk_64] at h9; exact h9
    have hP : va_P D classes [(mo, .inr (12, [.ref mpage, .int mo_pageMany, .int mo_law, .int mo_many, .int mo_asked, .int mo_looksAll, .int mo_changes, .int mo_rowsRead, .ref mkeys, .ref mvalues, .ref mheights, .ref mheats, .int mo_secondMany, .ref msecondKeys, .ref msecondValues, .ref msecondHeights, .ref msecondHeats, .int mo_foundAt, .int mo_foundLooks, .int mo_foundLane, .int mo_bestsDone, .ref msaved, .ref mbestHeights, .int mo_seenMany, .ref msights, .ref mby, .int mo_seedNow, .int mo_keptRow, .int mo_keptMany, .int mo_keptSecond, .int mo_keptAsked, .int mo_keptLooks, .int mo_keptChanges, .int mo_keptSeen, .ref mkeptKeys, .ref mkeptValues, .ref mkeptHeights, .ref mkeptHeats, .ref mkeptKeys2, .ref mkeptValues2, .ref mkeptHeights2, .ref mkeptHeats2, .ref mkeptSights, .long mo_hash])), (mkeys, .inl (cy, 8, .inl mkeys_a)), (mvalues, .inl (cy, 8, .inl mvalues_a)), (mheights, .inl (cy, 8, .inl mheights_a))] H := hP
    have hD : va_D A [(mo, .inr (12, [.ref mpage, .int mo_pageMany, .int mo_law, .int mo_many, .int mo_asked, .int mo_looksAll, .int mo_changes, .int mo_rowsRead, .ref mkeys, .ref mvalues, .ref mheights, .ref mheats, .int mo_secondMany, .ref msecondKeys, .ref msecondValues, .ref msecondHeights, .ref msecondHeats, .int mo_foundAt, .int mo_foundLooks, .int mo_foundLane, .int mo_bestsDone, .ref msaved, .ref mbestHeights, .int mo_seenMany, .ref msights, .ref mby, .int mo_seedNow, .int mo_keptRow, .int mo_keptMany, .int mo_keptSecond, .int mo_keptAsked, .int mo_keptLooks, .int mo_keptChanges, .int mo_keptSeen, .ref mkeptKeys, .ref mkeptValues, .ref mkeptHeights, .ref mkeptHeats, .ref mkeptKeys2, .ref mkeptValues2, .ref mkeptHeights2, .ref mkeptHeats2, .ref mkeptSights, .long mo_hash])), (mkeys, .inl (cy, 8, .inl mkeys_a)), (mvalues, .inl (cy, 8, .inl mvalues_a)), (mheights, .inl (cy, 8, .inl mheights_a))] := hD
    refine lv_if_ne (tgt := 22) hx hb dX12_find_16 (by decide) (fun c_14 => ?_) (fun c_14 => ?_)
    · have k_14 : ¬ (wk_in b.toInt64 0 3).toInt = 0 := wk_neq c_14
      rw [if_neg c_14] at hF
      refine lv_aload_n hx hb dX12_find_22 rfl (lv_at hl 0 rfl) ?_
      refine wk_iV (As := []) (rest := []) (wc := [(mo, .inr (12, [.ref mpage, .int mo_pageMany, .int mo_law, .int mo_many, .int mo_asked, .int mo_looksAll, .int mo_changes, .int mo_rowsRead, .ref mkeys, .ref mvalues, .ref mheights, .ref mheats, .int mo_secondMany, .ref msecondKeys, .ref msecondValues, .ref msecondHeights, .ref msecondHeats, .int mo_foundAt, .int mo_foundLooks, .int mo_foundLane, .int mo_bestsDone, .ref msaved, .ref mbestHeights, .int mo_seenMany, .ref msights, .ref mby, .int mo_seedNow, .int mo_keptRow, .int mo_keptMany, .int mo_keptSecond, .int mo_keptAsked, .int mo_keptLooks, .int mo_keptChanges, .int mo_keptSeen, .ref mkeptKeys, .ref mkeptValues, .ref mkeptHeights, .ref mkeptHeats, .ref mkeptKeys2, .ref mkeptValues2, .ref mkeptHeights2, .ref mkeptHeats2, .ref mkeptSights, .long mo_hash]))]) (wr := [(mkeys, .inl (cy, 8, .inl mkeys_a)), (mvalues, .inl (cy, 8, .inl mvalues_a)), (mheights, .inl (cy, 8, .inl mheights_a))]) (n := 0) ⟨hx, hb, hml, hown, htb⟩ (c_X12_lacks l D cy mo mpage mkeys mvalues mheights mheats msecondKeys msecondValues msecondHeights msecondHeats msaved mbestHeights msights mby mkeptKeys mkeptValues mkeptHeights mkeptHeats mkeptKeys2 mkeptValues2 mkeptHeights2 mkeptHeats2 mkeptSights mo_pageMany mo_law mo_many mo_asked mo_looksAll mo_changes mo_rowsRead mo_secondMany mo_foundAt mo_foundLooks mo_foundLane mo_bestsDone mo_seenMany mo_seedNow mo_keptRow mo_keptMany mo_keptSecond mo_keptAsked mo_keptLooks mo_keptChanges mo_keptSeen mo_hash  (show 0 ≤ mo_pageMany.toInt ∧ mo_pageMany.toInt ≤ 44 from by omega) (show 0 ≤ mo_many.toInt ∧ mo_many.toInt ≤ 8 from by omega) (show 0 ≤ mo_secondMany.toInt ∧ mo_secondMany.toInt ≤ 8 from by omega) (show (-1) ≤ mo_foundAt.toInt ∧ mo_foundAt.toInt ≤ 7 from by omega) (show 0 ≤ mo_seenMany.toInt ∧ mo_seenMany.toInt ≤ 6 from by omega) (show 0 ≤ mo_keptMany.toInt ∧ mo_keptMany.toInt ≤ 8 from by omega) (show 0 ≤ mo_keptSecond.toInt ∧ mo_keptSecond.toInt ≤ 8 from by omega) (show 0 ≤ mo_keptSeen.toInt ∧ mo_keptSeen.toInt ≤ 6 from by omega)) tw_969 tw_966 tw_968 tw_29 tw_71 rfl rfl (by decide +kernel) ⟨Nat.le_of_ble_eq_true rfl, Nat.le_of_ble_eq_true rfl⟩ hK hP hD hS hA [0] [1, 2, 3] rfl rfl rfl rfl (by decide) 0 (ci := 12) rfl rfl rfl hl.1 rfl (Nat.le_of_ble_eq_true rfl) dX12_find_23 ⟨Nat.le_of_ble_eq_true rfl, Nat.le_of_ble_eq_true rfl⟩ (fun r_15 u_16 H locs hw_17 hP hD hS => ?_)
      refine W.widen (k := 0) (n := 0) (by decide) (by decide) ?_
      obtain ⟨hw_17, k_18, k_19, k_20⟩ := hw_17
      have hw_17 : r_15 = (fn_X12_lacks mo_many) := hw_17
      subst hw_17
      have k_18 : ((fn_X12_lacks mo_many) = 0 ∨ (fn_X12_lacks mo_many) = 1) := k_18
      have k_19 : ((fn_X12_lacks mo_many).toInt = 0 ∨ mo_many.toInt = 0) := k_19
      have k_20 : ((fn_X12_lacks mo_many).toInt = 1 ∨ 1 ≤ mo_many.toInt) := k_20
      have k_21 : 0 ≤ (fn_X12_lacks mo_many).toInt ∧ (fn_X12_lacks mo_many).toInt ≤ 1 := wk_b01 (by assumption)
      have hP : va_P D classes [(mkeys, .inl (cy, 8, .inl mkeys_a)), (mvalues, .inl (cy, 8, .inl mvalues_a)), (mheights, .inl (cy, 8, .inl mheights_a)), (mo, .inr (12, [.ref mpage, .int mo_pageMany, .int mo_law, .int mo_many, .int mo_asked, .int mo_looksAll, .int mo_changes, .int mo_rowsRead, .ref mkeys, .ref mvalues, .ref mheights, .ref mheats, .int mo_secondMany, .ref msecondKeys, .ref msecondValues, .ref msecondHeights, .ref msecondHeats, .int mo_foundAt, .int mo_foundLooks, .int mo_foundLane, .int mo_bestsDone, .ref msaved, .ref mbestHeights, .int mo_seenMany, .ref msights, .ref mby, .int mo_seedNow, .int mo_keptRow, .int mo_keptMany, .int mo_keptSecond, .int mo_keptAsked, .int mo_keptLooks, .int mo_keptChanges, .int mo_keptSeen, .ref mkeptKeys, .ref mkeptValues, .ref mkeptHeights, .ref mkeptHeats, .ref mkeptKeys2, .ref mkeptValues2, .ref mkeptHeights2, .ref mkeptHeats2, .ref mkeptSights, .long mo_hash]))] H := hP
      have hD : va_D A [(mkeys, .inl (cy, 8, .inl mkeys_a)), (mvalues, .inl (cy, 8, .inl mvalues_a)), (mheights, .inl (cy, 8, .inl mheights_a)), (mo, .inr (12, [.ref mpage, .int mo_pageMany, .int mo_law, .int mo_many, .int mo_asked, .int mo_looksAll, .int mo_changes, .int mo_rowsRead, .ref mkeys, .ref mvalues, .ref mheights, .ref mheats, .int mo_secondMany, .ref msecondKeys, .ref msecondValues, .ref msecondHeights, .ref msecondHeats, .int mo_foundAt, .int mo_foundLooks, .int mo_foundLane, .int mo_bestsDone, .ref msaved, .ref mbestHeights, .int mo_seenMany, .ref msights, .ref mby, .int mo_seedNow, .int mo_keptRow, .int mo_keptMany, .int mo_keptSecond, .int mo_keptAsked, .int mo_keptLooks, .int mo_keptChanges, .int mo_keptSeen, .ref mkeptKeys, .ref mkeptValues, .ref mkeptHeights, .ref mkeptHeats, .ref mkeptKeys2, .ref mkeptValues2, .ref mkeptHeights2, .ref mkeptHeats2, .ref mkeptSights, .long mo_hash]))] := hD
      refine lv_if_eq (tgt := 32) hx hb dX12_find_26 (by decide) (fun c_22 => ?_) (fun c_22 => ?_)
      · have k_22 : (fn_X12_lacks mo_many).toInt = 0 := wk_eq c_22
        rw [if_pos c_22] at hF
        refine lv_aload_n hx hb dX12_find_32 rfl (lv_at hl 0 rfl) ?_
        refine lv_iload_n hx hb dX12_find_33 rfl (lv_at hl 1 rfl) ?_
        refine wk_vV (As := [.int a]) (rest := []) (wc := [(mo, .inr (12, [.ref mpage, .int mo_pageMany, .int mo_law, .int mo_many, .int mo_asked, .int mo_looksAll, .int mo_changes, .int mo_rowsRead, .ref mkeys, .ref mvalues, .ref mheights, .ref mheats, .int mo_secondMany, .ref msecondKeys, .ref msecondValues, .ref msecondHeights, .ref msecondHeats, .int mo_foundAt, .int mo_foundLooks, .int mo_foundLane, .int mo_bestsDone, .ref msaved, .ref mbestHeights, .int mo_seenMany, .ref msights, .ref mby, .int mo_seedNow, .int mo_keptRow, .int mo_keptMany, .int mo_keptSecond, .int mo_keptAsked, .int mo_keptLooks, .int mo_keptChanges, .int mo_keptSeen, .ref mkeptKeys, .ref mkeptValues, .ref mkeptHeights, .ref mkeptHeats, .ref mkeptKeys2, .ref mkeptValues2, .ref mkeptHeights2, .ref mkeptHeats2, .ref mkeptSights, .long mo_hash])), (mkeys, .inl (cy, 8, .inl mkeys_a)), (mheights, .inl (cy, 8, .inl mheights_a))]) (wr := [(mvalues, .inl (cy, 8, .inl mvalues_a))]) (n := 1) ⟨hx, hb, hml, hown, htb⟩ (c_X12_lookFor l D cy mo mpage mkeys mvalues mheights mheats msecondKeys msecondValues msecondHeights msecondHeats msaved mbestHeights msights mby mkeptKeys mkeptValues mkeptHeights mkeptHeats mkeptKeys2 mkeptValues2 mkeptHeights2 mkeptHeats2 mkeptSights mo_pageMany mo_law mo_many mo_asked mo_looksAll mo_changes mo_rowsRead mo_secondMany mo_foundAt mo_foundLooks mo_foundLane mo_bestsDone mo_seenMany mo_seedNow mo_keptRow mo_keptMany mo_keptSecond mo_keptAsked mo_keptLooks mo_keptChanges mo_keptSeen mo_hash mkeys_a mheights_a a (show 0 ≤ mo_pageMany.toInt ∧ mo_pageMany.toInt ≤ 44 from by omega) (show 0 ≤ mo_many.toInt ∧ mo_many.toInt ≤ 8 from by omega) (show 0 ≤ mo_secondMany.toInt ∧ mo_secondMany.toInt ≤ 8 from by omega) (show (-1) ≤ mo_foundAt.toInt ∧ mo_foundAt.toInt ≤ 7 from by omega) (show 0 ≤ mo_seenMany.toInt ∧ mo_seenMany.toInt ≤ 6 from by omega) (show 0 ≤ mo_keptMany.toInt ∧ mo_keptMany.toInt ≤ 8 from by omega) (show 0 ≤ mo_keptSecond.toInt ∧ mo_keptSecond.toInt ≤ 8 from by omega) (show 0 ≤ mo_keptSeen.toInt ∧ mo_keptSeen.toInt ≤ 6 from by omega)) tw_973 tw_970 tw_972 tw_30 tw_71 rfl rfl (by decide +kernel) ⟨Nat.le_of_ble_eq_true rfl, Nat.le_of_ble_eq_true rfl⟩ hK hP hD hS hA [3, 0, 2] [1] rfl rfl rfl rfl (by decide) 0 (ci := 12) rfl rfl rfl hl.1 rfl (Nat.le_of_ble_eq_true rfl) dX12_find_34 ⟨Nat.le_of_ble_eq_true rfl, Nat.le_of_ble_eq_true rfl⟩ (fun u_24 H locs hw_25 hP hD hS => ?_)
        refine W.widen (k := 0) (n := 0) (by decide) (by decide) ?_
        obtain ⟨o_26, o_27, o_28⟩ := u_24
        obtain ⟨hw_25, k_29⟩ := hw_25
        have hw_25 : (o_26, o_27, o_28) = (fn_X12_lookFor mo_many mo_foundAt mo_foundLooks mo_foundLane mkeys_a mheights_a a) := hw_25
        have k_29 : ((-1) ≤ o_26.toInt ∧ o_26.toInt ≤ 7) := k_29
        rw [← hw_25] at hF
        rw [pm2_mk o_26 (o_27, o_28), pm2_mk o_27 o_28] at hF
        have hP : va_P D classes [(mvalues, .inl (cy, 8, .inl mvalues_a)), (mo, .inr (12, [.ref mpage, .int mo_pageMany, .int mo_law, .int mo_many, .int mo_asked, .int mo_looksAll, .int mo_changes, .int mo_rowsRead, .ref mkeys, .ref mvalues, .ref mheights, .ref mheats, .int mo_secondMany, .ref msecondKeys, .ref msecondValues, .ref msecondHeights, .ref msecondHeats, .int o_26, .int o_27, .int o_28, .int mo_bestsDone, .ref msaved, .ref mbestHeights, .int mo_seenMany, .ref msights, .ref mby, .int mo_seedNow, .int mo_keptRow, .int mo_keptMany, .int mo_keptSecond, .int mo_keptAsked, .int mo_keptLooks, .int mo_keptChanges, .int mo_keptSeen, .ref mkeptKeys, .ref mkeptValues, .ref mkeptHeights, .ref mkeptHeats, .ref mkeptKeys2, .ref mkeptValues2, .ref mkeptHeights2, .ref mkeptHeats2, .ref mkeptSights, .long mo_hash])), (mkeys, .inl (cy, 8, .inl mkeys_a)), (mheights, .inl (cy, 8, .inl mheights_a))] H := hP
        have hD : va_D A [(mvalues, .inl (cy, 8, .inl mvalues_a)), (mo, .inr (12, [.ref mpage, .int mo_pageMany, .int mo_law, .int mo_many, .int mo_asked, .int mo_looksAll, .int mo_changes, .int mo_rowsRead, .ref mkeys, .ref mvalues, .ref mheights, .ref mheats, .int mo_secondMany, .ref msecondKeys, .ref msecondValues, .ref msecondHeights, .ref msecondHeats, .int o_26, .int o_27, .int o_28, .int mo_bestsDone, .ref msaved, .ref mbestHeights, .int mo_seenMany, .ref msights, .ref mby, .int mo_seedNow, .int mo_keptRow, .int mo_keptMany, .int mo_keptSecond, .int mo_keptAsked, .int mo_keptLooks, .int mo_keptChanges, .int mo_keptSeen, .ref mkeptKeys, .ref mkeptValues, .ref mkeptHeights, .ref mkeptHeats, .ref mkeptKeys2, .ref mkeptValues2, .ref mkeptHeights2, .ref mkeptHeats2, .ref mkeptSights, .long mo_hash])), (mkeys, .inl (cy, 8, .inl mkeys_a)), (mheights, .inl (cy, 8, .inl mheights_a))] := hD
        refine lv_aload_n hx hb dX12_find_37 rfl (lv_at hl 0 rfl) ?_
        refine lv_iload_n hx hb dX12_find_38 rfl (lv_at hl 2 rfl) ?_
        refine wk_iV (As := [.int b]) (rest := []) (wc := [(mo, .inr (12, [.ref mpage, .int mo_pageMany, .int mo_law, .int mo_many, .int mo_asked, .int mo_looksAll, .int mo_changes, .int mo_rowsRead, .ref mkeys, .ref mvalues, .ref mheights, .ref mheats, .int mo_secondMany, .ref msecondKeys, .ref msecondValues, .ref msecondHeights, .ref msecondHeats, .int o_26, .int o_27, .int o_28, .int mo_bestsDone, .ref msaved, .ref mbestHeights, .int mo_seenMany, .ref msights, .ref mby, .int mo_seedNow, .int mo_keptRow, .int mo_keptMany, .int mo_keptSecond, .int mo_keptAsked, .int mo_keptLooks, .int mo_keptChanges, .int mo_keptSeen, .ref mkeptKeys, .ref mkeptValues, .ref mkeptHeights, .ref mkeptHeats, .ref mkeptKeys2, .ref mkeptValues2, .ref mkeptHeights2, .ref mkeptHeats2, .ref mkeptSights, .long mo_hash])), (mvalues, .inl (cy, 8, .inl mvalues_a))]) (wr := [(mkeys, .inl (cy, 8, .inl mkeys_a)), (mheights, .inl (cy, 8, .inl mheights_a))]) (n := 1) ⟨hx, hb, hml, hown, htb⟩ (c_X12_tellFound l D cy mo mpage mkeys mvalues mheights mheats msecondKeys msecondValues msecondHeights msecondHeats msaved mbestHeights msights mby mkeptKeys mkeptValues mkeptHeights mkeptHeats mkeptKeys2 mkeptValues2 mkeptHeights2 mkeptHeats2 mkeptSights mo_pageMany mo_law mo_many mo_asked mo_looksAll mo_changes mo_rowsRead mo_secondMany o_26 o_27 o_28 mo_bestsDone mo_seenMany mo_seedNow mo_keptRow mo_keptMany mo_keptSecond mo_keptAsked mo_keptLooks mo_keptChanges mo_keptSeen mo_hash mvalues_a b (show 0 ≤ mo_pageMany.toInt ∧ mo_pageMany.toInt ≤ 44 from by omega) (show 0 ≤ mo_many.toInt ∧ mo_many.toInt ≤ 8 from by omega) (show 0 ≤ mo_secondMany.toInt ∧ mo_secondMany.toInt ≤ 8 from by omega) (show (-1) ≤ o_26.toInt ∧ o_26.toInt ≤ 7 from by omega) (show 0 ≤ mo_seenMany.toInt ∧ mo_seenMany.toInt ≤ 6 from by omega) (show 0 ≤ mo_keptMany.toInt ∧ mo_keptMany.toInt ≤ 8 from by omega) (show 0 ≤ mo_keptSecond.toInt ∧ mo_keptSecond.toInt ≤ 8 from by omega) (show 0 ≤ mo_keptSeen.toInt ∧ mo_keptSeen.toInt ≤ 6 from by omega)) tw_989 tw_986 tw_988 tw_34 tw_71 rfl rfl (by decide +kernel) ⟨Nat.le_of_ble_eq_true rfl, Nat.le_of_ble_eq_true rfl⟩ hK hP hD hS hA [1, 0] [2, 3] rfl rfl rfl rfl (by decide) 0 (ci := 12) rfl rfl rfl hl.1 rfl (Nat.le_of_ble_eq_true rfl) dX12_find_39 ⟨Nat.le_of_ble_eq_true rfl, Nat.le_of_ble_eq_true rfl⟩ (fun r_30 u_31 H locs hw_32 hP hD hS => ?_)
        refine W.widen (k := 0) (n := 0) (by decide) (by decide) ?_
        have hw_32 : r_30 = (fn_X12_tellFound o_26 o_27 o_28 mvalues_a b) := hw_32
        subst hw_32
        have hP : va_P D classes [(mkeys, .inl (cy, 8, .inl mkeys_a)), (mheights, .inl (cy, 8, .inl mheights_a)), (mo, .inr (12, [.ref mpage, .int mo_pageMany, .int mo_law, .int mo_many, .int mo_asked, .int mo_looksAll, .int mo_changes, .int mo_rowsRead, .ref mkeys, .ref mvalues, .ref mheights, .ref mheats, .int mo_secondMany, .ref msecondKeys, .ref msecondValues, .ref msecondHeights, .ref msecondHeats, .int o_26, .int o_27, .int o_28, .int mo_bestsDone, .ref msaved, .ref mbestHeights, .int mo_seenMany, .ref msights, .ref mby, .int mo_seedNow, .int mo_keptRow, .int mo_keptMany, .int mo_keptSecond, .int mo_keptAsked, .int mo_keptLooks, .int mo_keptChanges, .int mo_keptSeen, .ref mkeptKeys, .ref mkeptValues, .ref mkeptHeights, .ref mkeptHeats, .ref mkeptKeys2, .ref mkeptValues2, .ref mkeptHeights2, .ref mkeptHeats2, .ref mkeptSights, .long mo_hash])), (mvalues, .inl (cy, 8, .inl mvalues_a))] H := hP
        have hD : va_D A [(mkeys, .inl (cy, 8, .inl mkeys_a)), (mheights, .inl (cy, 8, .inl mheights_a)), (mo, .inr (12, [.ref mpage, .int mo_pageMany, .int mo_law, .int mo_many, .int mo_asked, .int mo_looksAll, .int mo_changes, .int mo_rowsRead, .ref mkeys, .ref mvalues, .ref mheights, .ref mheats, .int mo_secondMany, .ref msecondKeys, .ref msecondValues, .ref msecondHeights, .ref msecondHeats, .int o_26, .int o_27, .int o_28, .int mo_bestsDone, .ref msaved, .ref mbestHeights, .int mo_seenMany, .ref msights, .ref mby, .int mo_seedNow, .int mo_keptRow, .int mo_keptMany, .int mo_keptSecond, .int mo_keptAsked, .int mo_keptLooks, .int mo_keptChanges, .int mo_keptSeen, .ref mkeptKeys, .ref mkeptValues, .ref mkeptHeights, .ref mkeptHeats, .ref mkeptKeys2, .ref mkeptValues2, .ref mkeptHeights2, .ref mkeptHeats2, .ref mkeptSights, .long mo_hash])), (mvalues, .inl (cy, 8, .inl mvalues_a))] := hD
        refine W.widen (k := 0) (n := 0) (by decide) (by decide) ?_
        exact hret (fn_X12_tellFound o_26 o_27 o_28 mvalues_a b) (o_26, o_27, o_28) _ _ _ 42 (wk_sub9 (is := [2, 0, 3, 1]) hP rfl) (hD.sub [2, 0, 3, 1] rfl rfl) hS dX12_find_42 ⟨hF.symm, (show ((-1) ≤ o_26.toInt ∧ o_26.toInt ≤ 7) from by omega)⟩
      · have k_22 : ¬ (fn_X12_lacks mo_many).toInt = 0 := wk_neq c_22
        rw [if_neg c_22] at hF
        refine lv_bipush (v := (-103)) hx hb dX12_find_29 (by decide) ?_
        refine W.widen (k := 0) (n := 0) (by decide) (by decide) ?_
        exact hret (-103) (mo_foundAt, mo_foundLooks, mo_foundLane) _ _ _ 31 (wk_sub9 (is := [3, 0, 1, 2]) hP rfl) (hD.sub [3, 0, 1, 2] rfl rfl) hS dX12_find_31 ⟨hF.symm, (show ((-1) ≤ mo_foundAt.toInt ∧ mo_foundAt.toInt ≤ 7) from by omega)⟩
    · have k_14 : (wk_in b.toInt64 0 3).toInt = 0 := wk_eq c_14
      rw [if_pos c_14] at hF
      refine lv_bipush (v := (-102)) hx hb dX12_find_19 (by decide) ?_
      refine W.widen (k := 0) (n := 0) (by decide) (by decide) ?_
      exact hret (-102) (mo_foundAt, mo_foundLooks, mo_foundLane) _ _ _ 21 (wk_sub9 (is := [0, 1, 2, 3]) hP rfl) (hD.sub [0, 1, 2, 3] rfl rfl) hS dX12_find_21 ⟨hF.symm, (show ((-1) ≤ mo_foundAt.toInt ∧ mo_foundAt.toInt ≤ 7) from by omega)⟩
def fn_X12_nth (mo_many : Int32) (mo_foundAt : Int32) (mo_foundLooks : Int32) (mo_foundLane : Int32) (mkeys_a : Nat → Int32) (mvalues_a : Nat → Int32) (mheights_a : Nat → Int32) (a : Int32) (b : Int32) : Int32 × Int32 × Int32 × Int32 := (if (fn_X12_isNumber mo_many a) = 0 then ((-101), mo_foundAt, mo_foundLooks, mo_foundLane) else (if (wk_in b.toInt64 0 2) = 0 then ((-102), mo_foundAt, mo_foundLooks, mo_foundLane) else (pm2 (fn_X12_lookNumber mo_many mo_foundAt mo_foundLooks mo_foundLane mheights_a a) (fun o_18 t_ => (pm2 (t_) (fun o_19 o_20 => (if b = 0 then ((mkeys_a a.toNatClampNeg), o_18, o_19, o_20) else ((fn_X12_tellFound o_18 o_19 o_20 mvalues_a b), o_18, o_19, o_20))))))))
theorem dX12_nth_0 : decode cX12_nth 0 = .ok (.aload_n 0, 1) := by decide +kernel
theorem dX12_nth_1 : decode cX12_nth 1 = .ok (.iload_n 1, 1) := by decide +kernel
theorem dX12_nth_2 : decode cX12_nth 2 = .ok (.invokevirtual 192, 3) := by decide +kernel
theorem dX12_nth_5 : decode cX12_nth 5 = .ok (.ifCond .ne 6, 3) := by decide +kernel
theorem dX12_nth_8 : decode cX12_nth 8 = .ok (.bipush (-101), 2) := by decide +kernel
theorem dX12_nth_10 : decode cX12_nth 10 = .ok (.ireturn, 1) := by decide +kernel
theorem dX12_nth_11 : decode cX12_nth 11 = .ok (.iload_n 2, 1) := by decide +kernel
theorem dX12_nth_12 : decode cX12_nth 12 = .ok (.i2l, 1) := by decide +kernel
theorem dX12_nth_13 : decode cX12_nth 13 = .ok (.lconst 0, 1) := by decide +kernel
theorem dX12_nth_14 : decode cX12_nth 14 = .ok (.ldc2_w 195, 3) := by decide +kernel
theorem dX12_nth_17 : decode cX12_nth 17 = .ok (.invokestatic 82, 3) := by decide +kernel
theorem dX12_nth_20 : decode cX12_nth 20 = .ok (.ifCond .ne 6, 3) := by decide +kernel
theorem dX12_nth_23 : decode cX12_nth 23 = .ok (.bipush (-102), 2) := by decide +kernel
theorem dX12_nth_25 : decode cX12_nth 25 = .ok (.ireturn, 1) := by decide +kernel
theorem dX12_nth_26 : decode cX12_nth 26 = .ok (.aload_n 0, 1) := by decide +kernel
theorem dX12_nth_27 : decode cX12_nth 27 = .ok (.iload_n 1, 1) := by decide +kernel
theorem dX12_nth_28 : decode cX12_nth 28 = .ok (.invokevirtual 197, 3) := by decide +kernel
theorem dX12_nth_31 : decode cX12_nth 31 = .ok (.iload_n 2, 1) := by decide +kernel
theorem dX12_nth_32 : decode cX12_nth 32 = .ok (.ifCond .ne 12, 3) := by decide +kernel
theorem dX12_nth_35 : decode cX12_nth 35 = .ok (.aload_n 0, 1) := by decide +kernel
theorem dX12_nth_36 : decode cX12_nth 36 = .ok (.getfield 13, 3) := by decide +kernel
theorem dX12_nth_39 : decode cX12_nth 39 = .ok (.iload_n 1, 1) := by decide +kernel
theorem dX12_nth_40 : decode cX12_nth 40 = .ok (.iaload, 1) := by decide +kernel
theorem dX12_nth_41 : decode cX12_nth 41 = .ok (.goto 8, 3) := by decide +kernel
theorem dX12_nth_44 : decode cX12_nth 44 = .ok (.aload_n 0, 1) := by decide +kernel
theorem dX12_nth_45 : decode cX12_nth 45 = .ok (.iload_n 2, 1) := by decide +kernel
theorem dX12_nth_46 : decode cX12_nth 46 = .ok (.invokevirtual 189, 3) := by decide +kernel
theorem dX12_nth_49 : decode cX12_nth 49 = .ok (.ireturn, 1) := by decide +kernel
set_option maxHeartbeats 4000000 in
set_option maxRecDepth 100000 in
theorem c_X12_nth (l : Launch) (D : va_G) (cy : ClassId) (mo mpage mkeys mvalues mheights mheats msecondKeys msecondValues msecondHeights msecondHeats msaved mbestHeights msights mby mkeptKeys mkeptValues mkeptHeights mkeptHeats mkeptKeys2 mkeptValues2 mkeptHeights2 mkeptHeats2 mkeptSights : Nat) (mo_pageMany : Int32) (mo_law : Int32) (mo_many : Int32) (mo_asked : Int32) (mo_looksAll : Int32) (mo_changes : Int32) (mo_rowsRead : Int32) (mo_secondMany : Int32) (mo_foundAt : Int32) (mo_foundLooks : Int32) (mo_foundLane : Int32) (mo_bestsDone : Int32) (mo_seenMany : Int32) (mo_seedNow : Int32) (mo_keptRow : Int32) (mo_keptMany : Int32) (mo_keptSecond : Int32) (mo_keptAsked : Int32) (mo_keptLooks : Int32) (mo_keptChanges : Int32) (mo_keptSeen : Int32) (mo_hash : Int64) (mkeys_a : Nat → Int32) (mvalues_a : Nat → Int32) (mheights_a : Nat → Int32) (a : Int32) (b : Int32) (g_0 : 0 ≤ mo_pageMany.toInt ∧ mo_pageMany.toInt ≤ 44) (g_1 : 0 ≤ mo_many.toInt ∧ mo_many.toInt ≤ 8) (g_2 : 0 ≤ mo_secondMany.toInt ∧ mo_secondMany.toInt ≤ 8) (g_3 : (-1) ≤ mo_foundAt.toInt ∧ mo_foundAt.toInt ≤ 7) (g_4 : 0 ≤ mo_seenMany.toInt ∧ mo_seenMany.toInt ≤ 6) (g_5 : 0 ≤ mo_keptMany.toInt ∧ mo_keptMany.toInt ≤ 8) (g_6 : 0 ≤ mo_keptSecond.toInt ∧ mo_keptSecond.toInt ≤ 8) (g_7 : 0 ≤ mo_keptSeen.toInt ∧ mo_keptSeen.toInt ≤ 6) : wk_Ci l yX12_nth cX12_nth 3 (some .int) { frames := 2, cells := 0, slots := 0, locals := 47 } D cy [.ref mo, .int a, .int b] [(mo, .inr (12, [.ref mpage, .int mo_pageMany, .int mo_law, .int mo_many, .int mo_asked, .int mo_looksAll, .int mo_changes, .int mo_rowsRead, .ref mkeys, .ref mvalues, .ref mheights, .ref mheats, .int mo_secondMany, .ref msecondKeys, .ref msecondValues, .ref msecondHeights, .ref msecondHeats, .int mo_foundAt, .int mo_foundLooks, .int mo_foundLane, .int mo_bestsDone, .ref msaved, .ref mbestHeights, .int mo_seenMany, .ref msights, .ref mby, .int mo_seedNow, .int mo_keptRow, .int mo_keptMany, .int mo_keptSecond, .int mo_keptAsked, .int mo_keptLooks, .int mo_keptChanges, .int mo_keptSeen, .ref mkeptKeys, .ref mkeptValues, .ref mkeptHeights, .ref mkeptHeats, .ref mkeptKeys2, .ref mkeptValues2, .ref mkeptHeights2, .ref mkeptHeats2, .ref mkeptSights, .long mo_hash])), (mkeys, .inl (cy, 8, .inl mkeys_a)), (mvalues, .inl (cy, 8, .inl mvalues_a)), (mheights, .inl (cy, 8, .inl mheights_a))] 0 0 (fun (r : Int32) (u : Int32 × Int32 × Int32) => (r, u) = (fn_X12_nth mo_many mo_foundAt mo_foundLooks mo_foundLane mkeys_a mvalues_a mheights_a a b) ∧ ((-1) ≤ u.1.toInt ∧ u.1.toInt ≤ 7)) (fun u => [(mo, .inr (12, [.ref mpage, .int mo_pageMany, .int mo_law, .int mo_many, .int mo_asked, .int mo_looksAll, .int mo_changes, .int mo_rowsRead, .ref mkeys, .ref mvalues, .ref mheights, .ref mheats, .int mo_secondMany, .ref msecondKeys, .ref msecondValues, .ref msecondHeights, .ref msecondHeats, .int u.1, .int u.2.1, .int u.2.2, .int mo_bestsDone, .ref msaved, .ref mbestHeights, .int mo_seenMany, .ref msights, .ref mby, .int mo_seedNow, .int mo_keptRow, .int mo_keptMany, .int mo_keptSecond, .int mo_keptAsked, .int mo_keptLooks, .int mo_keptChanges, .int mo_keptSeen, .ref mkeptKeys, .ref mkeptValues, .ref mkeptHeights, .ref mkeptHeats, .ref mkeptKeys2, .ref mkeptValues2, .ref mkeptHeights2, .ref mkeptHeats2, .ref mkeptSights, .long mo_hash])), (mkeys, .inl (cy, 8, .inl mkeys_a)), (mvalues, .inl (cy, 8, .inl mvalues_a)), (mheights, .inl (cy, 8, .inl mheights_a))]) := by
  refine wk_mk2Ci (by decide) (Nat.le_of_ble_eq_true rfl) ?_
  intro p e s m args below meth c A ls Q B hA hK hP hD hS hl hret
  obtain ⟨hx, hb, hr, hlocks, hml, hown, htb, hin⟩ := B
  have hl : lv_has ls 3 [(0, .ref mo), (1, .int a), (2, .int b)] := hl
  have hF : (fn_X12_nth mo_many mo_foundAt mo_foundLooks mo_foundLane mkeys_a mvalues_a mheights_a a b) = (fn_X12_nth mo_many mo_foundAt mo_foundLooks mo_foundLane mkeys_a mvalues_a mheights_a a b) := rfl
  conv at hF => rhs; unfold fn_X12_nth
  refine lv_aload_n hx hb dX12_nth_0 rfl (lv_at hl 0 rfl) ?_
  refine lv_iload_n hx hb dX12_nth_1 rfl (lv_at hl 1 rfl) ?_
  refine wk_iV (As := [.int a]) (rest := []) (wc := [(mo, .inr (12, [.ref mpage, .int mo_pageMany, .int mo_law, .int mo_many, .int mo_asked, .int mo_looksAll, .int mo_changes, .int mo_rowsRead, .ref mkeys, .ref mvalues, .ref mheights, .ref mheats, .int mo_secondMany, .ref msecondKeys, .ref msecondValues, .ref msecondHeights, .ref msecondHeats, .int mo_foundAt, .int mo_foundLooks, .int mo_foundLane, .int mo_bestsDone, .ref msaved, .ref mbestHeights, .int mo_seenMany, .ref msights, .ref mby, .int mo_seedNow, .int mo_keptRow, .int mo_keptMany, .int mo_keptSecond, .int mo_keptAsked, .int mo_keptLooks, .int mo_keptChanges, .int mo_keptSeen, .ref mkeptKeys, .ref mkeptValues, .ref mkeptHeights, .ref mkeptHeats, .ref mkeptKeys2, .ref mkeptValues2, .ref mkeptHeights2, .ref mkeptHeats2, .ref mkeptSights, .long mo_hash]))]) (wr := [(mkeys, .inl (cy, 8, .inl mkeys_a)), (mvalues, .inl (cy, 8, .inl mvalues_a)), (mheights, .inl (cy, 8, .inl mheights_a))]) (n := 1) ⟨hx, hb, hml, hown, htb⟩ (c_X12_isNumber l D cy mo mpage mkeys mvalues mheights mheats msecondKeys msecondValues msecondHeights msecondHeats msaved mbestHeights msights mby mkeptKeys mkeptValues mkeptHeights mkeptHeats mkeptKeys2 mkeptValues2 mkeptHeights2 mkeptHeats2 mkeptSights mo_pageMany mo_law mo_many mo_asked mo_looksAll mo_changes mo_rowsRead mo_secondMany mo_foundAt mo_foundLooks mo_foundLane mo_bestsDone mo_seenMany mo_seedNow mo_keptRow mo_keptMany mo_keptSecond mo_keptAsked mo_keptLooks mo_keptChanges mo_keptSeen mo_hash a (show 0 ≤ mo_pageMany.toInt ∧ mo_pageMany.toInt ≤ 44 from by omega) (show 0 ≤ mo_many.toInt ∧ mo_many.toInt ≤ 8 from by omega) (show 0 ≤ mo_secondMany.toInt ∧ mo_secondMany.toInt ≤ 8 from by omega) (show (-1) ≤ mo_foundAt.toInt ∧ mo_foundAt.toInt ≤ 7 from by omega) (show 0 ≤ mo_seenMany.toInt ∧ mo_seenMany.toInt ≤ 6 from by omega) (show 0 ≤ mo_keptMany.toInt ∧ mo_keptMany.toInt ≤ 8 from by omega) (show 0 ≤ mo_keptSecond.toInt ∧ mo_keptSecond.toInt ≤ 8 from by omega) (show 0 ≤ mo_keptSeen.toInt ∧ mo_keptSeen.toInt ≤ 6 from by omega)) tw_997 tw_994 tw_996 tw_35 tw_71 rfl rfl (by decide +kernel) ⟨Nat.le_of_ble_eq_true rfl, Nat.le_of_ble_eq_true rfl⟩ hK hP hD hS hA [0] [1, 2, 3] rfl rfl rfl rfl (by decide) 0 (ci := 12) rfl rfl rfl hl.1 rfl (Nat.le_of_ble_eq_true rfl) dX12_nth_2 ⟨Nat.le_of_ble_eq_true rfl, Nat.le_of_ble_eq_true rfl⟩ (fun r_1 u_2 H locs hw_3 hP hD hS => ?_)
  refine W.widen (k := 0) (n := 0) (by decide) (by decide) ?_
  obtain ⟨hw_3, k_4, k_5⟩ := hw_3
  have hw_3 : r_1 = (fn_X12_isNumber mo_many a) := hw_3
  subst hw_3
  have k_4 : ((fn_X12_isNumber mo_many a) = 0 ∨ (fn_X12_isNumber mo_many a) = 1) := k_4
  have k_5 : ((fn_X12_isNumber mo_many a).toInt = 0 ∨ (0 ≤ a.toInt ∧ a.toInt < mo_many.toInt)) := k_5
  have k_6 : 0 ≤ (fn_X12_isNumber mo_many a).toInt ∧ (fn_X12_isNumber mo_many a).toInt ≤ 1 := wk_b01 (by assumption)
  have hP : va_P D classes [(mkeys, .inl (cy, 8, .inl mkeys_a)), (mvalues, .inl (cy, 8, .inl mvalues_a)), (mheights, .inl (cy, 8, .inl mheights_a)), (mo, .inr (12, [.ref mpage, .int mo_pageMany, .int mo_law, .int mo_many, .int mo_asked, .int mo_looksAll, .int mo_changes, .int mo_rowsRead, .ref mkeys, .ref mvalues, .ref mheights, .ref mheats, .int mo_secondMany, .ref msecondKeys, .ref msecondValues, .ref msecondHeights, .ref msecondHeats, .int mo_foundAt, .int mo_foundLooks, .int mo_foundLane, .int mo_bestsDone, .ref msaved, .ref mbestHeights, .int mo_seenMany, .ref msights, .ref mby, .int mo_seedNow, .int mo_keptRow, .int mo_keptMany, .int mo_keptSecond, .int mo_keptAsked, .int mo_keptLooks, .int mo_keptChanges, .int mo_keptSeen, .ref mkeptKeys, .ref mkeptValues, .ref mkeptHeights, .ref mkeptHeats, .ref mkeptKeys2, .ref mkeptValues2, .ref mkeptHeights2, .ref mkeptHeats2, .ref mkeptSights, .long mo_hash]))] H := hP
  have hD : va_D A [(mkeys, .inl (cy, 8, .inl mkeys_a)), (mvalues, .inl (cy, 8, .inl mvalues_a)), (mheights, .inl (cy, 8, .inl mheights_a)), (mo, .inr (12, [.ref mpage, .int mo_pageMany, .int mo_law, .int mo_many, .int mo_asked, .int mo_looksAll, .int mo_changes, .int mo_rowsRead, .ref mkeys, .ref mvalues, .ref mheights, .ref mheats, .int mo_secondMany, .ref msecondKeys, .ref msecondValues, .ref msecondHeights, .ref msecondHeats, .int mo_foundAt, .int mo_foundLooks, .int mo_foundLane, .int mo_bestsDone, .ref msaved, .ref mbestHeights, .int mo_seenMany, .ref msights, .ref mby, .int mo_seedNow, .int mo_keptRow, .int mo_keptMany, .int mo_keptSecond, .int mo_keptAsked, .int mo_keptLooks, .int mo_keptChanges, .int mo_keptSeen, .ref mkeptKeys, .ref mkeptValues, .ref mkeptHeights, .ref mkeptHeats, .ref mkeptKeys2, .ref mkeptValues2, .ref mkeptHeights2, .ref mkeptHeats2, .ref mkeptSights, .long mo_hash]))] := hD
  refine lv_if_ne (tgt := 11) hx hb dX12_nth_5 (by decide) (fun c_7 => ?_) (fun c_7 => ?_)
  · have k_7 : ¬ (fn_X12_isNumber mo_many a).toInt = 0 := wk_neq c_7
    rw [if_neg c_7] at hF
    refine lv_iload_n hx hb dX12_nth_11 rfl (lv_at hl 2 rfl) ?_
    refine lv_i2l (v := b.toInt64) hx hb dX12_nth_12 rfl ?_
    refine lv_lconst (v := 0) hx hb dX12_nth_13 (by decide) ?_
    refine lv_ldc2 (v := 2) hx hb hown (htb _ tw_998) dX12_nth_14 ?_
    refine wk_iS (As := [.long b.toInt64, .long 0, .long 2]) (rest := []) (wc := []) (wr := [(mkeys, .inl (cy, 8, .inl mkeys_a)), (mvalues, .inl (cy, 8, .inl mvalues_a)), (mheights, .inl (cy, 8, .inl mheights_a)), (mo, .inr (12, [.ref mpage, .int mo_pageMany, .int mo_law, .int mo_many, .int mo_asked, .int mo_looksAll, .int mo_changes, .int mo_rowsRead, .ref mkeys, .ref mvalues, .ref mheights, .ref mheats, .int mo_secondMany, .ref msecondKeys, .ref msecondValues, .ref msecondHeights, .ref msecondHeats, .int mo_foundAt, .int mo_foundLooks, .int mo_foundLane, .int mo_bestsDone, .ref msaved, .ref mbestHeights, .int mo_seenMany, .ref msights, .ref mby, .int mo_seedNow, .int mo_keptRow, .int mo_keptMany, .int mo_keptSecond, .int mo_keptAsked, .int mo_keptLooks, .int mo_keptChanges, .int mo_keptSeen, .ref mkeptKeys, .ref mkeptValues, .ref mkeptHeights, .ref mkeptHeats, .ref mkeptKeys2, .ref mkeptValues2, .ref mkeptHeights2, .ref mkeptHeats2, .ref mkeptSights, .long mo_hash]))]) (n := 3) ⟨hx, hb, hml, hown, htb⟩ (c_X12_in l D cy   b.toInt64 0 2 ) tw_903 tw_901 tw_902 tw_71 rfl rfl (by decide +kernel) ⟨Nat.le_of_ble_eq_true rfl, Nat.le_of_ble_eq_true rfl⟩ hK hP hD hS hA [] [0, 1, 2, 3] rfl rfl rfl rfl (by decide) rfl hl.1 rfl (Nat.le_of_ble_eq_true rfl) dX12_nth_17 ⟨Nat.le_of_ble_eq_true rfl, Nat.le_of_ble_eq_true rfl⟩ (fun r_8 u_9 H locs hw_10 hP hD hS => ?_)
    refine W.widen (k := 0) (n := 0) (by decide) (by decide) ?_
    obtain ⟨hw_10, k_11⟩ := hw_10
    have hw_10 : r_8 = (wk_in b.toInt64 0 2) := hw_10
    subst hw_10
    have k_11 : ((wk_in b.toInt64 0 2) = 0 ∨ (wk_in b.toInt64 0 2) = 1) := k_11
    have k_12 : 0 ≤ (wk_in b.toInt64 0 2).toInt ∧ (wk_in b.toInt64 0 2).toInt ≤ 1 := wk_b01 (by assumption)
    have k_13 : ((wk_in b.toInt64 0 2).toInt = 1 ∧ 0 ≤ b.toInt ∧ b.toInt ≤ 2) ∨ ((wk_in b.toInt64 0 2).toInt = 0 ∧ ¬ (0 ≤ b.toInt ∧ b.toInt ≤ 2)) := by have h9 := wk_inf b.toInt64 0 2; simp only [wk_64] at h9; exact h9
    have hP : va_P D classes [(mkeys, .inl (cy, 8, .inl mkeys_a)), (mvalues, .inl (cy, 8, .inl mvalues_a)), (mheights, .inl (cy, 8, .inl mheights_a)), (mo, .inr (12, [.ref mpage, .int mo_pageMany, .int mo_law, .int mo_many, .int mo_asked, .int mo_looksAll, .int mo_changes, .int mo_rowsRead, .ref mkeys, .ref mvalues, .ref mheights, .ref mheats, .int mo_secondMany, .ref msecondKeys, .ref msecondValues, .ref msecondHeights, .ref msecondHeats, .int mo_foundAt, .int mo_foundLooks, .int mo_foundLane, .int mo_bestsDone, .ref msaved, .ref mbestHeights, .int mo_seenMany, .ref msights, .ref mby, .int mo_seedNow, .int mo_keptRow, .int mo_keptMany, .int mo_keptSecond, .int mo_keptAsked, .int mo_keptLooks, .int mo_keptChanges, .int mo_keptSeen, .ref mkeptKeys, .ref mkeptValues, .ref mkeptHeights, .ref mkeptHeats, .ref mkeptKeys2, .ref mkeptValues2, .ref mkeptHeights2, .ref mkeptHeats2, .ref mkeptSights, .long mo_hash]))] H := hP
    have hD : va_D A [(mkeys, .inl (cy, 8, .inl mkeys_a)), (mvalues, .inl (cy, 8, .inl mvalues_a)), (mheights, .inl (cy, 8, .inl mheights_a)), (mo, .inr (12, [.ref mpage, .int mo_pageMany, .int mo_law, .int mo_many, .int mo_asked, .int mo_looksAll, .int mo_changes, .int mo_rowsRead, .ref mkeys, .ref mvalues, .ref mheights, .ref mheats, .int mo_secondMany, .ref msecondKeys, .ref msecondValues, .ref msecondHeights, .ref msecondHeats, .int mo_foundAt, .int mo_foundLooks, .int mo_foundLane, .int mo_bestsDone, .ref msaved, .ref mbestHeights, .int mo_seenMany, .ref msights, .ref mby, .int mo_seedNow, .int mo_keptRow, .int mo_keptMany, .int mo_keptSecond, .int mo_keptAsked, .int mo_keptLooks, .int mo_keptChanges, .int mo_keptSeen, .ref mkeptKeys, .ref mkeptValues, .ref mkeptHeights, .ref mkeptHeats, .ref mkeptKeys2, .ref mkeptValues2, .ref mkeptHeights2, .ref mkeptHeats2, .ref mkeptSights, .long mo_hash]))] := hD
    refine lv_if_ne (tgt := 26) hx hb dX12_nth_20 (by decide) (fun c_14 => ?_) (fun c_14 => ?_)
    · have k_14 : ¬ (wk_in b.toInt64 0 2).toInt = 0 := wk_neq c_14
      rw [if_neg c_14] at hF
      refine lv_aload_n hx hb dX12_nth_26 rfl (lv_at hl 0 rfl) ?_
      refine lv_iload_n hx hb dX12_nth_27 rfl (lv_at hl 1 rfl) ?_
      refine wk_vV (As := [.int a]) (rest := []) (wc := [(mo, .inr (12, [.ref mpage, .int mo_pageMany, .int mo_law, .int mo_many, .int mo_asked, .int mo_looksAll, .int mo_changes, .int mo_rowsRead, .ref mkeys, .ref mvalues, .ref mheights, .ref mheats, .int mo_secondMany, .ref msecondKeys, .ref msecondValues, .ref msecondHeights, .ref msecondHeats, .int mo_foundAt, .int mo_foundLooks, .int mo_foundLane, .int mo_bestsDone, .ref msaved, .ref mbestHeights, .int mo_seenMany, .ref msights, .ref mby, .int mo_seedNow, .int mo_keptRow, .int mo_keptMany, .int mo_keptSecond, .int mo_keptAsked, .int mo_keptLooks, .int mo_keptChanges, .int mo_keptSeen, .ref mkeptKeys, .ref mkeptValues, .ref mkeptHeights, .ref mkeptHeats, .ref mkeptKeys2, .ref mkeptValues2, .ref mkeptHeights2, .ref mkeptHeats2, .ref mkeptSights, .long mo_hash])), (mheights, .inl (cy, 8, .inl mheights_a))]) (wr := [(mkeys, .inl (cy, 8, .inl mkeys_a)), (mvalues, .inl (cy, 8, .inl mvalues_a))]) (n := 1) ⟨hx, hb, hml, hown, htb⟩ (c_X12_lookNumber l D cy mo mpage mkeys mvalues mheights mheats msecondKeys msecondValues msecondHeights msecondHeats msaved mbestHeights msights mby mkeptKeys mkeptValues mkeptHeights mkeptHeats mkeptKeys2 mkeptValues2 mkeptHeights2 mkeptHeats2 mkeptSights mo_pageMany mo_law mo_many mo_asked mo_looksAll mo_changes mo_rowsRead mo_secondMany mo_foundAt mo_foundLooks mo_foundLane mo_bestsDone mo_seenMany mo_seedNow mo_keptRow mo_keptMany mo_keptSecond mo_keptAsked mo_keptLooks mo_keptChanges mo_keptSeen mo_hash mheights_a a (show 0 ≤ mo_pageMany.toInt ∧ mo_pageMany.toInt ≤ 44 from by omega) (show 0 ≤ mo_many.toInt ∧ mo_many.toInt ≤ 8 from by omega) (show 0 ≤ mo_secondMany.toInt ∧ mo_secondMany.toInt ≤ 8 from by omega) (show (-1) ≤ mo_foundAt.toInt ∧ mo_foundAt.toInt ≤ 7 from by omega) (show 0 ≤ mo_seenMany.toInt ∧ mo_seenMany.toInt ≤ 6 from by omega) (show 0 ≤ mo_keptMany.toInt ∧ mo_keptMany.toInt ≤ 8 from by omega) (show 0 ≤ mo_keptSecond.toInt ∧ mo_keptSecond.toInt ≤ 8 from by omega) (show 0 ≤ mo_keptSeen.toInt ∧ mo_keptSeen.toInt ≤ 6 from by omega) (show 0 ≤ a.toInt ∧ a.toInt ≤ 7 from by omega)) tw_1002 tw_999 tw_1001 tw_36 tw_71 rfl rfl (by decide +kernel) ⟨Nat.le_of_ble_eq_true rfl, Nat.le_of_ble_eq_true rfl⟩ hK hP hD hS hA [3, 2] [0, 1] rfl rfl rfl rfl (by decide) 0 (ci := 12) rfl rfl rfl hl.1 rfl (Nat.le_of_ble_eq_true rfl) dX12_nth_28 ⟨Nat.le_of_ble_eq_true rfl, Nat.le_of_ble_eq_true rfl⟩ (fun u_16 H locs hw_17 hP hD hS => ?_)
      refine W.widen (k := 0) (n := 0) (by decide) (by decide) ?_
      obtain ⟨o_18, o_19, o_20⟩ := u_16
      obtain ⟨hw_17, k_21⟩ := hw_17
      have hw_17 : (o_18, o_19, o_20) = (fn_X12_lookNumber mo_many mo_foundAt mo_foundLooks mo_foundLane mheights_a a) := hw_17
      have k_21 : ((-1) ≤ o_18.toInt ∧ o_18.toInt ≤ 7) := k_21
      rw [← hw_17] at hF
      rw [pm2_mk o_18 (o_19, o_20), pm2_mk o_19 o_20] at hF
      have hP : va_P D classes [(mkeys, .inl (cy, 8, .inl mkeys_a)), (mvalues, .inl (cy, 8, .inl mvalues_a)), (mo, .inr (12, [.ref mpage, .int mo_pageMany, .int mo_law, .int mo_many, .int mo_asked, .int mo_looksAll, .int mo_changes, .int mo_rowsRead, .ref mkeys, .ref mvalues, .ref mheights, .ref mheats, .int mo_secondMany, .ref msecondKeys, .ref msecondValues, .ref msecondHeights, .ref msecondHeats, .int o_18, .int o_19, .int o_20, .int mo_bestsDone, .ref msaved, .ref mbestHeights, .int mo_seenMany, .ref msights, .ref mby, .int mo_seedNow, .int mo_keptRow, .int mo_keptMany, .int mo_keptSecond, .int mo_keptAsked, .int mo_keptLooks, .int mo_keptChanges, .int mo_keptSeen, .ref mkeptKeys, .ref mkeptValues, .ref mkeptHeights, .ref mkeptHeats, .ref mkeptKeys2, .ref mkeptValues2, .ref mkeptHeights2, .ref mkeptHeats2, .ref mkeptSights, .long mo_hash])), (mheights, .inl (cy, 8, .inl mheights_a))] H := hP
      have hD : va_D A [(mkeys, .inl (cy, 8, .inl mkeys_a)), (mvalues, .inl (cy, 8, .inl mvalues_a)), (mo, .inr (12, [.ref mpage, .int mo_pageMany, .int mo_law, .int mo_many, .int mo_asked, .int mo_looksAll, .int mo_changes, .int mo_rowsRead, .ref mkeys, .ref mvalues, .ref mheights, .ref mheats, .int mo_secondMany, .ref msecondKeys, .ref msecondValues, .ref msecondHeights, .ref msecondHeats, .int o_18, .int o_19, .int o_20, .int mo_bestsDone, .ref msaved, .ref mbestHeights, .int mo_seenMany, .ref msights, .ref mby, .int mo_seedNow, .int mo_keptRow, .int mo_keptMany, .int mo_keptSecond, .int mo_keptAsked, .int mo_keptLooks, .int mo_keptChanges, .int mo_keptSeen, .ref mkeptKeys, .ref mkeptValues, .ref mkeptHeights, .ref mkeptHeats, .ref mkeptKeys2, .ref mkeptValues2, .ref mkeptHeights2, .ref mkeptHeats2, .ref mkeptSights, .long mo_hash])), (mheights, .inl (cy, 8, .inl mheights_a))] := hD
      refine lv_iload_n hx hb dX12_nth_31 rfl (lv_at hl 2 rfl) ?_
      refine lv_if_ne (tgt := 44) hx hb dX12_nth_32 (by decide) (fun c_22 => ?_) (fun c_22 => ?_)
      · have k_22 : ¬ b.toInt = 0 := wk_neq c_22
        rw [if_neg c_22] at hF
        refine lv_aload_n hx hb dX12_nth_44 rfl (lv_at hl 0 rfl) ?_
        refine lv_iload_n hx hb dX12_nth_45 rfl (lv_at hl 2 rfl) ?_
        refine wk_iV (As := [.int b]) (rest := []) (wc := [(mo, .inr (12, [.ref mpage, .int mo_pageMany, .int mo_law, .int mo_many, .int mo_asked, .int mo_looksAll, .int mo_changes, .int mo_rowsRead, .ref mkeys, .ref mvalues, .ref mheights, .ref mheats, .int mo_secondMany, .ref msecondKeys, .ref msecondValues, .ref msecondHeights, .ref msecondHeats, .int o_18, .int o_19, .int o_20, .int mo_bestsDone, .ref msaved, .ref mbestHeights, .int mo_seenMany, .ref msights, .ref mby, .int mo_seedNow, .int mo_keptRow, .int mo_keptMany, .int mo_keptSecond, .int mo_keptAsked, .int mo_keptLooks, .int mo_keptChanges, .int mo_keptSeen, .ref mkeptKeys, .ref mkeptValues, .ref mkeptHeights, .ref mkeptHeats, .ref mkeptKeys2, .ref mkeptValues2, .ref mkeptHeights2, .ref mkeptHeats2, .ref mkeptSights, .long mo_hash])), (mvalues, .inl (cy, 8, .inl mvalues_a))]) (wr := [(mkeys, .inl (cy, 8, .inl mkeys_a)), (mheights, .inl (cy, 8, .inl mheights_a))]) (n := 1) ⟨hx, hb, hml, hown, htb⟩ (c_X12_tellFound l D cy mo mpage mkeys mvalues mheights mheats msecondKeys msecondValues msecondHeights msecondHeats msaved mbestHeights msights mby mkeptKeys mkeptValues mkeptHeights mkeptHeats mkeptKeys2 mkeptValues2 mkeptHeights2 mkeptHeats2 mkeptSights mo_pageMany mo_law mo_many mo_asked mo_looksAll mo_changes mo_rowsRead mo_secondMany o_18 o_19 o_20 mo_bestsDone mo_seenMany mo_seedNow mo_keptRow mo_keptMany mo_keptSecond mo_keptAsked mo_keptLooks mo_keptChanges mo_keptSeen mo_hash mvalues_a b (show 0 ≤ mo_pageMany.toInt ∧ mo_pageMany.toInt ≤ 44 from by omega) (show 0 ≤ mo_many.toInt ∧ mo_many.toInt ≤ 8 from by omega) (show 0 ≤ mo_secondMany.toInt ∧ mo_secondMany.toInt ≤ 8 from by omega) (show (-1) ≤ o_18.toInt ∧ o_18.toInt ≤ 7 from by omega) (show 0 ≤ mo_seenMany.toInt ∧ mo_seenMany.toInt ≤ 6 from by omega) (show 0 ≤ mo_keptMany.toInt ∧ mo_keptMany.toInt ≤ 8 from by omega) (show 0 ≤ mo_keptSecond.toInt ∧ mo_keptSecond.toInt ≤ 8 from by omega) (show 0 ≤ mo_keptSeen.toInt ∧ mo_keptSeen.toInt ≤ 6 from by omega)) tw_989 tw_986 tw_988 tw_34 tw_71 rfl rfl (by decide +kernel) ⟨Nat.le_of_ble_eq_true rfl, Nat.le_of_ble_eq_true rfl⟩ hK hP hD hS hA [2, 1] [0, 3] rfl rfl rfl rfl (by decide) 0 (ci := 12) rfl rfl rfl hl.1 rfl (Nat.le_of_ble_eq_true rfl) dX12_nth_46 ⟨Nat.le_of_ble_eq_true rfl, Nat.le_of_ble_eq_true rfl⟩ (fun r_23 u_24 H locs hw_25 hP hD hS => ?_)
        refine W.widen (k := 0) (n := 0) (by decide) (by decide) ?_
        have hw_25 : r_23 = (fn_X12_tellFound o_18 o_19 o_20 mvalues_a b) := hw_25
        subst hw_25
        have hP : va_P D classes [(mkeys, .inl (cy, 8, .inl mkeys_a)), (mheights, .inl (cy, 8, .inl mheights_a)), (mo, .inr (12, [.ref mpage, .int mo_pageMany, .int mo_law, .int mo_many, .int mo_asked, .int mo_looksAll, .int mo_changes, .int mo_rowsRead, .ref mkeys, .ref mvalues, .ref mheights, .ref mheats, .int mo_secondMany, .ref msecondKeys, .ref msecondValues, .ref msecondHeights, .ref msecondHeats, .int o_18, .int o_19, .int o_20, .int mo_bestsDone, .ref msaved, .ref mbestHeights, .int mo_seenMany, .ref msights, .ref mby, .int mo_seedNow, .int mo_keptRow, .int mo_keptMany, .int mo_keptSecond, .int mo_keptAsked, .int mo_keptLooks, .int mo_keptChanges, .int mo_keptSeen, .ref mkeptKeys, .ref mkeptValues, .ref mkeptHeights, .ref mkeptHeats, .ref mkeptKeys2, .ref mkeptValues2, .ref mkeptHeights2, .ref mkeptHeats2, .ref mkeptSights, .long mo_hash])), (mvalues, .inl (cy, 8, .inl mvalues_a))] H := hP
        have hD : va_D A [(mkeys, .inl (cy, 8, .inl mkeys_a)), (mheights, .inl (cy, 8, .inl mheights_a)), (mo, .inr (12, [.ref mpage, .int mo_pageMany, .int mo_law, .int mo_many, .int mo_asked, .int mo_looksAll, .int mo_changes, .int mo_rowsRead, .ref mkeys, .ref mvalues, .ref mheights, .ref mheats, .int mo_secondMany, .ref msecondKeys, .ref msecondValues, .ref msecondHeights, .ref msecondHeats, .int o_18, .int o_19, .int o_20, .int mo_bestsDone, .ref msaved, .ref mbestHeights, .int mo_seenMany, .ref msights, .ref mby, .int mo_seedNow, .int mo_keptRow, .int mo_keptMany, .int mo_keptSecond, .int mo_keptAsked, .int mo_keptLooks, .int mo_keptChanges, .int mo_keptSeen, .ref mkeptKeys, .ref mkeptValues, .ref mkeptHeights, .ref mkeptHeats, .ref mkeptKeys2, .ref mkeptValues2, .ref mkeptHeights2, .ref mkeptHeats2, .ref mkeptSights, .long mo_hash])), (mvalues, .inl (cy, 8, .inl mvalues_a))] := hD
        refine W.widen (k := 0) (n := 0) (by decide) (by decide) ?_
        exact hret (fn_X12_tellFound o_18 o_19 o_20 mvalues_a b) (o_18, o_19, o_20) _ _ _ 49 (wk_sub9 (is := [2, 0, 3, 1]) hP rfl) (hD.sub [2, 0, 3, 1] rfl rfl) hS dX12_nth_49 ⟨hF.symm, (show ((-1) ≤ o_18.toInt ∧ o_18.toInt ≤ 7) from by omega)⟩
      · have k_22 : b.toInt = 0 := wk_eq c_22
        rw [if_pos c_22] at hF
        refine lv_aload_n hx hb dX12_nth_35 rfl (lv_at hl 0 rfl) ?_
        refine va_get (D := D) (ci := 12) (v := .ref mkeys) (C := RX12) (T := TX12) (N := 44) hx hb htb inX12 hown hK hP 2 rfl rfl 8 (by decide) (htb _ tw_771) (fun _ h9 => h9) rfl dX12_nth_36 ?_
        refine lv_iload_n hx hb dX12_nth_39 rfl (lv_at hl 1 rfl) ?_
        refine va_iald hx hb hK hP 0 0 rfl rfl (show vp_in a 8 from vp_in_iff.mpr (show 0 ≤ a.toInt ∧ a.toInt < ((8 : Nat) : Int) from by omega)) dX12_nth_40 ?_
        refine lv_goto (tgt := 49) hx hb dX12_nth_41 (by decide) ?_
        refine W.widen (k := 0) (n := 0) (by decide) (by decide) ?_
        exact hret (mkeys_a a.toNatClampNeg) (o_18, o_19, o_20) _ _ _ 49 (wk_sub9 (is := [2, 0, 1, 3]) hP rfl) (hD.sub [2, 0, 1, 3] rfl rfl) hS dX12_nth_49 ⟨hF.symm, (show ((-1) ≤ o_18.toInt ∧ o_18.toInt ≤ 7) from by omega)⟩
    · have k_14 : (wk_in b.toInt64 0 2).toInt = 0 := wk_eq c_14
      rw [if_pos c_14] at hF
      refine lv_bipush (v := (-102)) hx hb dX12_nth_23 (by decide) ?_
      refine W.widen (k := 0) (n := 0) (by decide) (by decide) ?_
      exact hret (-102) (mo_foundAt, mo_foundLooks, mo_foundLane) _ _ _ 25 (wk_sub9 (is := [3, 0, 1, 2]) hP rfl) (hD.sub [3, 0, 1, 2] rfl rfl) hS dX12_nth_25 ⟨hF.symm, (show ((-1) ≤ mo_foundAt.toInt ∧ mo_foundAt.toInt ≤ 7) from by omega)⟩
  · have k_7 : (fn_X12_isNumber mo_many a).toInt = 0 := wk_eq c_7
    rw [if_pos c_7] at hF
    refine lv_bipush (v := (-101)) hx hb dX12_nth_8 (by decide) ?_
    refine W.widen (k := 0) (n := 0) (by decide) (by decide) ?_
    exact hret (-101) (mo_foundAt, mo_foundLooks, mo_foundLane) _ _ _ 10 (wk_sub9 (is := [3, 0, 1, 2]) hP rfl) (hD.sub [3, 0, 1, 2] rfl rfl) hS dX12_nth_10 ⟨hF.symm, (show ((-1) ≤ mo_foundAt.toInt ∧ mo_foundAt.toInt ≤ 7) from by omega)⟩
def lp_X12_sum_37 (mo_many : Int32) (mkeys_a : Nat → Int32) (mvalues_a : Nat → Int32) (a : Int32) (b : Int32) : Nat → Int32 → Int32 → Int32 × Int32
  | 0, _, _ => default
  | fu_37 + 1, x3_37, x4_37 => (if mo_many ≤ x4_37 then (x3_37, x4_37) else (if (wk_in ((mkeys_a x4_37.toNatClampNeg).toInt64) a.toInt64 b.toInt64) = 0 then (lp_X12_sum_37 mo_many mkeys_a mvalues_a a b fu_37 (x3_37 + 0) (x4_37 + 1)) else (lp_X12_sum_37 mo_many mkeys_a mvalues_a a b fu_37 (x3_37 + (mvalues_a x4_37.toNatClampNeg)) (x4_37 + 1))))
termination_by n => n
def fn_X12_sum (mo_many : Int32) (mkeys_a : Nat → Int32) (mvalues_a : Nat → Int32) (a : Int32) (b : Int32) : Int32 := (if (fn_X12_isKey a) = 0 then (-102) else (if (fn_X12_isKey b) = 0 then (-102) else (if a ≤ b then (if (fn_X12_lacks mo_many) = 0 then (pm2 (lp_X12_sum_37 mo_many mkeys_a mvalues_a a b 10 0 0) (fun x3_37 x4_37 => x3_37)) else (-103)) else (-102))))
theorem dX12_sum_0 : decode cX12_sum 0 = .ok (.iload_n 1, 1) := by decide +kernel
theorem dX12_sum_1 : decode cX12_sum 1 = .ok (.invokestatic 180, 3) := by decide +kernel
theorem dX12_sum_4 : decode cX12_sum 4 = .ok (.ifCond .eq 15, 3) := by decide +kernel
theorem dX12_sum_7 : decode cX12_sum 7 = .ok (.iload_n 2, 1) := by decide +kernel
theorem dX12_sum_8 : decode cX12_sum 8 = .ok (.invokestatic 180, 3) := by decide +kernel
theorem dX12_sum_11 : decode cX12_sum 11 = .ok (.ifCond .eq 8, 3) := by decide +kernel
theorem dX12_sum_14 : decode cX12_sum 14 = .ok (.iload_n 1, 1) := by decide +kernel
theorem dX12_sum_15 : decode cX12_sum 15 = .ok (.iload_n 2, 1) := by decide +kernel
theorem dX12_sum_16 : decode cX12_sum 16 = .ok (.if_icmp .le 6, 3) := by decide +kernel
theorem dX12_sum_19 : decode cX12_sum 19 = .ok (.bipush (-102), 2) := by decide +kernel
theorem dX12_sum_21 : decode cX12_sum 21 = .ok (.ireturn, 1) := by decide +kernel
theorem dX12_sum_22 : decode cX12_sum 22 = .ok (.aload_n 0, 1) := by decide +kernel
theorem dX12_sum_23 : decode cX12_sum 23 = .ok (.invokevirtual 185, 3) := by decide +kernel
theorem dX12_sum_26 : decode cX12_sum 26 = .ok (.ifCond .eq 6, 3) := by decide +kernel
theorem dX12_sum_29 : decode cX12_sum 29 = .ok (.bipush (-103), 2) := by decide +kernel
theorem dX12_sum_31 : decode cX12_sum 31 = .ok (.ireturn, 1) := by decide +kernel
theorem dX12_sum_32 : decode cX12_sum 32 = .ok (.iconst 0, 1) := by decide +kernel
theorem dX12_sum_33 : decode cX12_sum 33 = .ok (.istore_n 3, 1) := by decide +kernel
theorem dX12_sum_34 : decode cX12_sum 34 = .ok (.iconst 0, 1) := by decide +kernel
theorem dX12_sum_35 : decode cX12_sum 35 = .ok (.istore 4, 2) := by decide +kernel
theorem dX12_sum_37 : decode cX12_sum 37 = .ok (.iload 4, 2) := by decide +kernel
theorem dX12_sum_39 : decode cX12_sum 39 = .ok (.aload_n 0, 1) := by decide +kernel
theorem dX12_sum_40 : decode cX12_sum 40 = .ok (.getfield 121, 3) := by decide +kernel
theorem dX12_sum_43 : decode cX12_sum 43 = .ok (.if_icmp .ge 41, 3) := by decide +kernel
theorem dX12_sum_46 : decode cX12_sum 46 = .ok (.iload_n 3, 1) := by decide +kernel
theorem dX12_sum_47 : decode cX12_sum 47 = .ok (.aload_n 0, 1) := by decide +kernel
theorem dX12_sum_48 : decode cX12_sum 48 = .ok (.getfield 13, 3) := by decide +kernel
theorem dX12_sum_51 : decode cX12_sum 51 = .ok (.iload 4, 2) := by decide +kernel
theorem dX12_sum_53 : decode cX12_sum 53 = .ok (.iaload, 1) := by decide +kernel
theorem dX12_sum_54 : decode cX12_sum 54 = .ok (.i2l, 1) := by decide +kernel
theorem dX12_sum_55 : decode cX12_sum 55 = .ok (.iload_n 1, 1) := by decide +kernel
theorem dX12_sum_56 : decode cX12_sum 56 = .ok (.i2l, 1) := by decide +kernel
theorem dX12_sum_57 : decode cX12_sum 57 = .ok (.iload_n 2, 1) := by decide +kernel
theorem dX12_sum_58 : decode cX12_sum 58 = .ok (.i2l, 1) := by decide +kernel
theorem dX12_sum_59 : decode cX12_sum 59 = .ok (.invokestatic 82, 3) := by decide +kernel
theorem dX12_sum_62 : decode cX12_sum 62 = .ok (.ifCond .eq 13, 3) := by decide +kernel
theorem dX12_sum_65 : decode cX12_sum 65 = .ok (.aload_n 0, 1) := by decide +kernel
theorem dX12_sum_66 : decode cX12_sum 66 = .ok (.getfield 16, 3) := by decide +kernel
theorem dX12_sum_69 : decode cX12_sum 69 = .ok (.iload 4, 2) := by decide +kernel
theorem dX12_sum_71 : decode cX12_sum 71 = .ok (.iaload, 1) := by decide +kernel
theorem dX12_sum_72 : decode cX12_sum 72 = .ok (.goto 4, 3) := by decide +kernel
theorem dX12_sum_75 : decode cX12_sum 75 = .ok (.iconst 0, 1) := by decide +kernel
theorem dX12_sum_76 : decode cX12_sum 76 = .ok (.iadd, 1) := by decide +kernel
theorem dX12_sum_77 : decode cX12_sum 77 = .ok (.istore_n 3, 1) := by decide +kernel
theorem dX12_sum_78 : decode cX12_sum 78 = .ok (.iinc 4 1, 3) := by decide +kernel
theorem dX12_sum_81 : decode cX12_sum 81 = .ok (.goto (-44), 3) := by decide +kernel
theorem dX12_sum_84 : decode cX12_sum 84 = .ok (.iload_n 3, 1) := by decide +kernel
theorem dX12_sum_85 : decode cX12_sum 85 = .ok (.ireturn, 1) := by decide +kernel
set_option maxHeartbeats 4000000 in
set_option maxRecDepth 100000 in
theorem c_X12_sum (l : Launch) (D : va_G) (cy : ClassId) (mo mpage mkeys mvalues mheights mheats msecondKeys msecondValues msecondHeights msecondHeats msaved mbestHeights msights mby mkeptKeys mkeptValues mkeptHeights mkeptHeats mkeptKeys2 mkeptValues2 mkeptHeights2 mkeptHeats2 mkeptSights : Nat) (mo_pageMany : Int32) (mo_law : Int32) (mo_many : Int32) (mo_asked : Int32) (mo_looksAll : Int32) (mo_changes : Int32) (mo_rowsRead : Int32) (mo_secondMany : Int32) (mo_foundAt : Int32) (mo_foundLooks : Int32) (mo_foundLane : Int32) (mo_bestsDone : Int32) (mo_seenMany : Int32) (mo_seedNow : Int32) (mo_keptRow : Int32) (mo_keptMany : Int32) (mo_keptSecond : Int32) (mo_keptAsked : Int32) (mo_keptLooks : Int32) (mo_keptChanges : Int32) (mo_keptSeen : Int32) (mo_hash : Int64) (mkeys_a : Nat → Int32) (mvalues_a : Nat → Int32) (a : Int32) (b : Int32) (g_0 : 0 ≤ mo_pageMany.toInt ∧ mo_pageMany.toInt ≤ 44) (g_1 : 0 ≤ mo_many.toInt ∧ mo_many.toInt ≤ 8) (g_2 : 0 ≤ mo_secondMany.toInt ∧ mo_secondMany.toInt ≤ 8) (g_3 : (-1) ≤ mo_foundAt.toInt ∧ mo_foundAt.toInt ≤ 7) (g_4 : 0 ≤ mo_seenMany.toInt ∧ mo_seenMany.toInt ≤ 6) (g_5 : 0 ≤ mo_keptMany.toInt ∧ mo_keptMany.toInt ≤ 8) (g_6 : 0 ≤ mo_keptSecond.toInt ∧ mo_keptSecond.toInt ≤ 8) (g_7 : 0 ≤ mo_keptSeen.toInt ∧ mo_keptSeen.toInt ≤ 6) : wk_Ci l yX12_sum cX12_sum 5 (some .int) { frames := 2, cells := 0, slots := 0, locals := 45 } D cy [.ref mo, .int a, .int b] [(mo, .inr (12, [.ref mpage, .int mo_pageMany, .int mo_law, .int mo_many, .int mo_asked, .int mo_looksAll, .int mo_changes, .int mo_rowsRead, .ref mkeys, .ref mvalues, .ref mheights, .ref mheats, .int mo_secondMany, .ref msecondKeys, .ref msecondValues, .ref msecondHeights, .ref msecondHeats, .int mo_foundAt, .int mo_foundLooks, .int mo_foundLane, .int mo_bestsDone, .ref msaved, .ref mbestHeights, .int mo_seenMany, .ref msights, .ref mby, .int mo_seedNow, .int mo_keptRow, .int mo_keptMany, .int mo_keptSecond, .int mo_keptAsked, .int mo_keptLooks, .int mo_keptChanges, .int mo_keptSeen, .ref mkeptKeys, .ref mkeptValues, .ref mkeptHeights, .ref mkeptHeats, .ref mkeptKeys2, .ref mkeptValues2, .ref mkeptHeights2, .ref mkeptHeats2, .ref mkeptSights, .long mo_hash])), (mkeys, .inl (cy, 8, .inl mkeys_a)), (mvalues, .inl (cy, 8, .inl mvalues_a))] 0 0 (fun (r : Int32) (u : Unit) => r = (fn_X12_sum mo_many mkeys_a mvalues_a a b)) (fun u => [(mo, .inr (12, [.ref mpage, .int mo_pageMany, .int mo_law, .int mo_many, .int mo_asked, .int mo_looksAll, .int mo_changes, .int mo_rowsRead, .ref mkeys, .ref mvalues, .ref mheights, .ref mheats, .int mo_secondMany, .ref msecondKeys, .ref msecondValues, .ref msecondHeights, .ref msecondHeats, .int mo_foundAt, .int mo_foundLooks, .int mo_foundLane, .int mo_bestsDone, .ref msaved, .ref mbestHeights, .int mo_seenMany, .ref msights, .ref mby, .int mo_seedNow, .int mo_keptRow, .int mo_keptMany, .int mo_keptSecond, .int mo_keptAsked, .int mo_keptLooks, .int mo_keptChanges, .int mo_keptSeen, .ref mkeptKeys, .ref mkeptValues, .ref mkeptHeights, .ref mkeptHeats, .ref mkeptKeys2, .ref mkeptValues2, .ref mkeptHeights2, .ref mkeptHeats2, .ref mkeptSights, .long mo_hash])), (mkeys, .inl (cy, 8, .inl mkeys_a)), (mvalues, .inl (cy, 8, .inl mvalues_a))]) := by
  refine wk_mk2Ci (by decide) (Nat.le_of_ble_eq_true rfl) ?_
  intro p e s m args below meth c A ls Q B hA hK hP hD hS hl hret
  obtain ⟨hx, hb, hr, hlocks, hml, hown, htb, hin⟩ := B
  have hl : lv_has ls 5 [(0, .ref mo), (1, .int a), (2, .int b)] := hl
  have hF : (fn_X12_sum mo_many mkeys_a mvalues_a a b) = (fn_X12_sum mo_many mkeys_a mvalues_a a b) := rfl
  conv at hF => rhs; unfold fn_X12_sum
  refine lv_iload_n hx hb dX12_sum_0 rfl (lv_at hl 1 rfl) ?_
  refine wk_iS (As := [.int a]) (rest := []) (wc := []) (wr := [(mo, .inr (12, [.ref mpage, .int mo_pageMany, .int mo_law, .int mo_many, .int mo_asked, .int mo_looksAll, .int mo_changes, .int mo_rowsRead, .ref mkeys, .ref mvalues, .ref mheights, .ref mheats, .int mo_secondMany, .ref msecondKeys, .ref msecondValues, .ref msecondHeights, .ref msecondHeats, .int mo_foundAt, .int mo_foundLooks, .int mo_foundLane, .int mo_bestsDone, .ref msaved, .ref mbestHeights, .int mo_seenMany, .ref msights, .ref mby, .int mo_seedNow, .int mo_keptRow, .int mo_keptMany, .int mo_keptSecond, .int mo_keptAsked, .int mo_keptLooks, .int mo_keptChanges, .int mo_keptSeen, .ref mkeptKeys, .ref mkeptValues, .ref mkeptHeights, .ref mkeptHeats, .ref mkeptKeys2, .ref mkeptValues2, .ref mkeptHeights2, .ref mkeptHeats2, .ref mkeptSights, .long mo_hash])), (mkeys, .inl (cy, 8, .inl mkeys_a)), (mvalues, .inl (cy, 8, .inl mvalues_a))]) (n := 1) ⟨hx, hb, hml, hown, htb⟩ (c_X12_isKey l D cy   a ) tw_963 tw_961 tw_962 tw_71 rfl rfl (by decide +kernel) ⟨Nat.le_of_ble_eq_true rfl, Nat.le_of_ble_eq_true rfl⟩ hK hP hD hS hA [] [0, 1, 2] rfl rfl rfl rfl (by decide) rfl hl.1 rfl (Nat.le_of_ble_eq_true rfl) dX12_sum_1 ⟨Nat.le_of_ble_eq_true rfl, Nat.le_of_ble_eq_true rfl⟩ (fun r_1 u_2 H locs hw_3 hP hD hS => ?_)
  refine W.widen (k := 0) (n := 0) (by decide) (by decide) ?_
  obtain ⟨hw_3, k_4, k_5⟩ := hw_3
  have hw_3 : r_1 = (fn_X12_isKey a) := hw_3
  subst hw_3
  have k_4 : ((fn_X12_isKey a) = 0 ∨ (fn_X12_isKey a) = 1) := k_4
  have k_5 : ((fn_X12_isKey a).toInt = 0 ∨ (0 ≤ a.toInt ∧ a.toInt ≤ 99)) := k_5
  have k_6 : 0 ≤ (fn_X12_isKey a).toInt ∧ (fn_X12_isKey a).toInt ≤ 1 := wk_b01 (by assumption)
  have hP : va_P D classes [(mo, .inr (12, [.ref mpage, .int mo_pageMany, .int mo_law, .int mo_many, .int mo_asked, .int mo_looksAll, .int mo_changes, .int mo_rowsRead, .ref mkeys, .ref mvalues, .ref mheights, .ref mheats, .int mo_secondMany, .ref msecondKeys, .ref msecondValues, .ref msecondHeights, .ref msecondHeats, .int mo_foundAt, .int mo_foundLooks, .int mo_foundLane, .int mo_bestsDone, .ref msaved, .ref mbestHeights, .int mo_seenMany, .ref msights, .ref mby, .int mo_seedNow, .int mo_keptRow, .int mo_keptMany, .int mo_keptSecond, .int mo_keptAsked, .int mo_keptLooks, .int mo_keptChanges, .int mo_keptSeen, .ref mkeptKeys, .ref mkeptValues, .ref mkeptHeights, .ref mkeptHeats, .ref mkeptKeys2, .ref mkeptValues2, .ref mkeptHeights2, .ref mkeptHeats2, .ref mkeptSights, .long mo_hash])), (mkeys, .inl (cy, 8, .inl mkeys_a)), (mvalues, .inl (cy, 8, .inl mvalues_a))] H := hP
  have hD : va_D A [(mo, .inr (12, [.ref mpage, .int mo_pageMany, .int mo_law, .int mo_many, .int mo_asked, .int mo_looksAll, .int mo_changes, .int mo_rowsRead, .ref mkeys, .ref mvalues, .ref mheights, .ref mheats, .int mo_secondMany, .ref msecondKeys, .ref msecondValues, .ref msecondHeights, .ref msecondHeats, .int mo_foundAt, .int mo_foundLooks, .int mo_foundLane, .int mo_bestsDone, .ref msaved, .ref mbestHeights, .int mo_seenMany, .ref msights, .ref mby, .int mo_seedNow, .int mo_keptRow, .int mo_keptMany, .int mo_keptSecond, .int mo_keptAsked, .int mo_keptLooks, .int mo_keptChanges, .int mo_keptSeen, .ref mkeptKeys, .ref mkeptValues, .ref mkeptHeights, .ref mkeptHeats, .ref mkeptKeys2, .ref mkeptValues2, .ref mkeptHeights2, .ref mkeptHeats2, .ref mkeptSights, .long mo_hash])), (mkeys, .inl (cy, 8, .inl mkeys_a)), (mvalues, .inl (cy, 8, .inl mvalues_a))] := hD
  refine lv_if_eq (tgt := 19) hx hb dX12_sum_4 (by decide) (fun c_7 => ?_) (fun c_7 => ?_)
  · have k_7 : (fn_X12_isKey a).toInt = 0 := wk_eq c_7
    rw [if_pos c_7] at hF
    refine lv_bipush (v := (-102)) hx hb dX12_sum_19 (by decide) ?_
    refine W.widen (k := 0) (n := 0) (by decide) (by decide) ?_
    exact hret (-102) () _ _ _ 21 (wk_sub9 (is := [0, 1, 2]) hP rfl) (hD.sub [0, 1, 2] rfl rfl) hS dX12_sum_21 hF.symm
  · have k_7 : ¬ (fn_X12_isKey a).toInt = 0 := wk_neq c_7
    rw [if_neg c_7] at hF
    refine lv_iload_n hx hb dX12_sum_7 rfl (lv_at hl 2 rfl) ?_
    refine wk_iS (As := [.int b]) (rest := []) (wc := []) (wr := [(mo, .inr (12, [.ref mpage, .int mo_pageMany, .int mo_law, .int mo_many, .int mo_asked, .int mo_looksAll, .int mo_changes, .int mo_rowsRead, .ref mkeys, .ref mvalues, .ref mheights, .ref mheats, .int mo_secondMany, .ref msecondKeys, .ref msecondValues, .ref msecondHeights, .ref msecondHeats, .int mo_foundAt, .int mo_foundLooks, .int mo_foundLane, .int mo_bestsDone, .ref msaved, .ref mbestHeights, .int mo_seenMany, .ref msights, .ref mby, .int mo_seedNow, .int mo_keptRow, .int mo_keptMany, .int mo_keptSecond, .int mo_keptAsked, .int mo_keptLooks, .int mo_keptChanges, .int mo_keptSeen, .ref mkeptKeys, .ref mkeptValues, .ref mkeptHeights, .ref mkeptHeats, .ref mkeptKeys2, .ref mkeptValues2, .ref mkeptHeights2, .ref mkeptHeats2, .ref mkeptSights, .long mo_hash])), (mkeys, .inl (cy, 8, .inl mkeys_a)), (mvalues, .inl (cy, 8, .inl mvalues_a))]) (n := 1) ⟨hx, hb, hml, hown, htb⟩ (c_X12_isKey l D cy   b ) tw_963 tw_961 tw_962 tw_71 rfl rfl (by decide +kernel) ⟨Nat.le_of_ble_eq_true rfl, Nat.le_of_ble_eq_true rfl⟩ hK hP hD hS hA [] [0, 1, 2] rfl rfl rfl rfl (by decide) rfl hl.1 rfl (Nat.le_of_ble_eq_true rfl) dX12_sum_8 ⟨Nat.le_of_ble_eq_true rfl, Nat.le_of_ble_eq_true rfl⟩ (fun r_8 u_9 H locs hw_10 hP hD hS => ?_)
    refine W.widen (k := 0) (n := 0) (by decide) (by decide) ?_
    obtain ⟨hw_10, k_11, k_12⟩ := hw_10
    have hw_10 : r_8 = (fn_X12_isKey b) := hw_10
    subst hw_10
    have k_11 : ((fn_X12_isKey b) = 0 ∨ (fn_X12_isKey b) = 1) := k_11
    have k_12 : ((fn_X12_isKey b).toInt = 0 ∨ (0 ≤ b.toInt ∧ b.toInt ≤ 99)) := k_12
    have k_13 : 0 ≤ (fn_X12_isKey b).toInt ∧ (fn_X12_isKey b).toInt ≤ 1 := wk_b01 (by assumption)
    have hP : va_P D classes [(mo, .inr (12, [.ref mpage, .int mo_pageMany, .int mo_law, .int mo_many, .int mo_asked, .int mo_looksAll, .int mo_changes, .int mo_rowsRead, .ref mkeys, .ref mvalues, .ref mheights, .ref mheats, .int mo_secondMany, .ref msecondKeys, .ref msecondValues, .ref msecondHeights, .ref msecondHeats, .int mo_foundAt, .int mo_foundLooks, .int mo_foundLane, .int mo_bestsDone, .ref msaved, .ref mbestHeights, .int mo_seenMany, .ref msights, .ref mby, .int mo_seedNow, .int mo_keptRow, .int mo_keptMany, .int mo_keptSecond, .int mo_keptAsked, .int mo_keptLooks, .int mo_keptChanges, .int mo_keptSeen, .ref mkeptKeys, .ref mkeptValues, .ref mkeptHeights, .ref mkeptHeats, .ref mkeptKeys2, .ref mkeptValues2, .ref mkeptHeights2, .ref mkeptHeats2, .ref mkeptSights, .long mo_hash])), (mkeys, .inl (cy, 8, .inl mkeys_a)), (mvalues, .inl (cy, 8, .inl mvalues_a))] H := hP
    have hD : va_D A [(mo, .inr (12, [.ref mpage, .int mo_pageMany, .int mo_law, .int mo_many, .int mo_asked, .int mo_looksAll, .int mo_changes, .int mo_rowsRead, .ref mkeys, .ref mvalues, .ref mheights, .ref mheats, .int mo_secondMany, .ref msecondKeys, .ref msecondValues, .ref msecondHeights, .ref msecondHeats, .int mo_foundAt, .int mo_foundLooks, .int mo_foundLane, .int mo_bestsDone, .ref msaved, .ref mbestHeights, .int mo_seenMany, .ref msights, .ref mby, .int mo_seedNow, .int mo_keptRow, .int mo_keptMany, .int mo_keptSecond, .int mo_keptAsked, .int mo_keptLooks, .int mo_keptChanges, .int mo_keptSeen, .ref mkeptKeys, .ref mkeptValues, .ref mkeptHeights, .ref mkeptHeats, .ref mkeptKeys2, .ref mkeptValues2, .ref mkeptHeights2, .ref mkeptHeats2, .ref mkeptSights, .long mo_hash])), (mkeys, .inl (cy, 8, .inl mkeys_a)), (mvalues, .inl (cy, 8, .inl mvalues_a))] := hD
    refine lv_if_eq (tgt := 19) hx hb dX12_sum_11 (by decide) (fun c_14 => ?_) (fun c_14 => ?_)
    · have k_14 : (fn_X12_isKey b).toInt = 0 := wk_eq c_14
      rw [if_pos c_14] at hF
      refine lv_bipush (v := (-102)) hx hb dX12_sum_19 (by decide) ?_
      refine W.widen (k := 0) (n := 0) (by decide) (by decide) ?_
      exact hret (-102) () _ _ _ 21 (wk_sub9 (is := [0, 1, 2]) hP rfl) (hD.sub [0, 1, 2] rfl rfl) hS dX12_sum_21 hF.symm
    · have k_14 : ¬ (fn_X12_isKey b).toInt = 0 := wk_neq c_14
      rw [if_neg c_14] at hF
      refine lv_iload_n hx hb dX12_sum_14 rfl (lv_at hl 1 rfl) ?_
      refine lv_iload_n hx hb dX12_sum_15 rfl (lv_at hl 2 rfl) ?_
      refine lv_icmp_le (tgt := 22) hx hb dX12_sum_16 (by decide) (fun c_15 => ?_) (fun c_15 => ?_)
      · have k_15 : a.toInt ≤ b.toInt := wk_le c_15
        rw [if_pos c_15] at hF
        refine lv_aload_n hx hb dX12_sum_22 rfl (lv_at hl 0 rfl) ?_
        refine wk_iV (As := []) (rest := []) (wc := [(mo, .inr (12, [.ref mpage, .int mo_pageMany, .int mo_law, .int mo_many, .int mo_asked, .int mo_looksAll, .int mo_changes, .int mo_rowsRead, .ref mkeys, .ref mvalues, .ref mheights, .ref mheats, .int mo_secondMany, .ref msecondKeys, .ref msecondValues, .ref msecondHeights, .ref msecondHeats, .int mo_foundAt, .int mo_foundLooks, .int mo_foundLane, .int mo_bestsDone, .ref msaved, .ref mbestHeights, .int mo_seenMany, .ref msights, .ref mby, .int mo_seedNow, .int mo_keptRow, .int mo_keptMany, .int mo_keptSecond, .int mo_keptAsked, .int mo_keptLooks, .int mo_keptChanges, .int mo_keptSeen, .ref mkeptKeys, .ref mkeptValues, .ref mkeptHeights, .ref mkeptHeats, .ref mkeptKeys2, .ref mkeptValues2, .ref mkeptHeights2, .ref mkeptHeats2, .ref mkeptSights, .long mo_hash]))]) (wr := [(mkeys, .inl (cy, 8, .inl mkeys_a)), (mvalues, .inl (cy, 8, .inl mvalues_a))]) (n := 0) ⟨hx, hb, hml, hown, htb⟩ (c_X12_lacks l D cy mo mpage mkeys mvalues mheights mheats msecondKeys msecondValues msecondHeights msecondHeats msaved mbestHeights msights mby mkeptKeys mkeptValues mkeptHeights mkeptHeats mkeptKeys2 mkeptValues2 mkeptHeights2 mkeptHeats2 mkeptSights mo_pageMany mo_law mo_many mo_asked mo_looksAll mo_changes mo_rowsRead mo_secondMany mo_foundAt mo_foundLooks mo_foundLane mo_bestsDone mo_seenMany mo_seedNow mo_keptRow mo_keptMany mo_keptSecond mo_keptAsked mo_keptLooks mo_keptChanges mo_keptSeen mo_hash  (show 0 ≤ mo_pageMany.toInt ∧ mo_pageMany.toInt ≤ 44 from by omega) (show 0 ≤ mo_many.toInt ∧ mo_many.toInt ≤ 8 from by omega) (show 0 ≤ mo_secondMany.toInt ∧ mo_secondMany.toInt ≤ 8 from by omega) (show (-1) ≤ mo_foundAt.toInt ∧ mo_foundAt.toInt ≤ 7 from by omega) (show 0 ≤ mo_seenMany.toInt ∧ mo_seenMany.toInt ≤ 6 from by omega) (show 0 ≤ mo_keptMany.toInt ∧ mo_keptMany.toInt ≤ 8 from by omega) (show 0 ≤ mo_keptSecond.toInt ∧ mo_keptSecond.toInt ≤ 8 from by omega) (show 0 ≤ mo_keptSeen.toInt ∧ mo_keptSeen.toInt ≤ 6 from by omega)) tw_969 tw_966 tw_968 tw_29 tw_71 rfl rfl (by decide +kernel) ⟨Nat.le_of_ble_eq_true rfl, Nat.le_of_ble_eq_true rfl⟩ hK hP hD hS hA [0] [1, 2] rfl rfl rfl rfl (by decide) 0 (ci := 12) rfl rfl rfl hl.1 rfl (Nat.le_of_ble_eq_true rfl) dX12_sum_23 ⟨Nat.le_of_ble_eq_true rfl, Nat.le_of_ble_eq_true rfl⟩ (fun r_16 u_17 H locs hw_18 hP hD hS => ?_)
        refine W.widen (k := 0) (n := 0) (by decide) (by decide) ?_
        obtain ⟨hw_18, k_19, k_20, k_21⟩ := hw_18
        have hw_18 : r_16 = (fn_X12_lacks mo_many) := hw_18
        subst hw_18
        have k_19 : ((fn_X12_lacks mo_many) = 0 ∨ (fn_X12_lacks mo_many) = 1) := k_19
        have k_20 : ((fn_X12_lacks mo_many).toInt = 0 ∨ mo_many.toInt = 0) := k_20
        have k_21 : ((fn_X12_lacks mo_many).toInt = 1 ∨ 1 ≤ mo_many.toInt) := k_21
        have k_22 : 0 ≤ (fn_X12_lacks mo_many).toInt ∧ (fn_X12_lacks mo_many).toInt ≤ 1 := wk_b01 (by assumption)
        have hP : va_P D classes [(mkeys, .inl (cy, 8, .inl mkeys_a)), (mvalues, .inl (cy, 8, .inl mvalues_a)), (mo, .inr (12, [.ref mpage, .int mo_pageMany, .int mo_law, .int mo_many, .int mo_asked, .int mo_looksAll, .int mo_changes, .int mo_rowsRead, .ref mkeys, .ref mvalues, .ref mheights, .ref mheats, .int mo_secondMany, .ref msecondKeys, .ref msecondValues, .ref msecondHeights, .ref msecondHeats, .int mo_foundAt, .int mo_foundLooks, .int mo_foundLane, .int mo_bestsDone, .ref msaved, .ref mbestHeights, .int mo_seenMany, .ref msights, .ref mby, .int mo_seedNow, .int mo_keptRow, .int mo_keptMany, .int mo_keptSecond, .int mo_keptAsked, .int mo_keptLooks, .int mo_keptChanges, .int mo_keptSeen, .ref mkeptKeys, .ref mkeptValues, .ref mkeptHeights, .ref mkeptHeats, .ref mkeptKeys2, .ref mkeptValues2, .ref mkeptHeights2, .ref mkeptHeats2, .ref mkeptSights, .long mo_hash]))] H := hP
        have hD : va_D A [(mkeys, .inl (cy, 8, .inl mkeys_a)), (mvalues, .inl (cy, 8, .inl mvalues_a)), (mo, .inr (12, [.ref mpage, .int mo_pageMany, .int mo_law, .int mo_many, .int mo_asked, .int mo_looksAll, .int mo_changes, .int mo_rowsRead, .ref mkeys, .ref mvalues, .ref mheights, .ref mheats, .int mo_secondMany, .ref msecondKeys, .ref msecondValues, .ref msecondHeights, .ref msecondHeats, .int mo_foundAt, .int mo_foundLooks, .int mo_foundLane, .int mo_bestsDone, .ref msaved, .ref mbestHeights, .int mo_seenMany, .ref msights, .ref mby, .int mo_seedNow, .int mo_keptRow, .int mo_keptMany, .int mo_keptSecond, .int mo_keptAsked, .int mo_keptLooks, .int mo_keptChanges, .int mo_keptSeen, .ref mkeptKeys, .ref mkeptValues, .ref mkeptHeights, .ref mkeptHeats, .ref mkeptKeys2, .ref mkeptValues2, .ref mkeptHeights2, .ref mkeptHeats2, .ref mkeptSights, .long mo_hash]))] := hD
        refine lv_if_eq (tgt := 32) hx hb dX12_sum_26 (by decide) (fun c_23 => ?_) (fun c_23 => ?_)
        · have k_23 : (fn_X12_lacks mo_many).toInt = 0 := wk_eq c_23
          rw [if_pos c_23] at hF
          refine lv_iconst (v := 0) hx hb dX12_sum_32 (by decide) ?_
          refine lv_istore_n (lv' := [(3, .int 0), (0, .ref mo), (1, .int a), (2, .int b)]) hx hb dX12_sum_33 rfl hl (by decide) rfl (fun ls hl => ?_)
          refine lv_iconst (v := 0) hx hb dX12_sum_34 (by decide) ?_
          refine lv_istore (lv' := [(4, .int 0), (3, .int 0), (0, .ref mo), (1, .int a), (2, .int b)]) hx hb dX12_sum_35 hl (by decide) rfl (fun ls hl => ?_)
          have hlp_37 : ∀ (fu_37 : Nat) (x3_37 : Int32) (x4_37 : Int32) (H : Heap) (locs : List Loc) (ls : Array Slot), (0 ≤ x4_37.toInt ∧ x4_37.toInt ≤ 8) → 8 - x4_37.toInt < (fu_37 : Int) → ((fn_X12_sum mo_many mkeys_a mvalues_a a b) = (pm2 (lp_X12_sum_37 mo_many mkeys_a mvalues_a a b fu_37 x3_37 x4_37) (fun x3_37 x4_37 => x3_37))) → va_P D classes [(mkeys, .inl (cy, 8, .inl mkeys_a)), (mvalues, .inl (cy, 8, .inl mvalues_a)), (mo, .inr (12, [.ref mpage, .int mo_pageMany, .int mo_law, .int mo_many, .int mo_asked, .int mo_looksAll, .int mo_changes, .int mo_rowsRead, .ref mkeys, .ref mvalues, .ref mheights, .ref mheats, .int mo_secondMany, .ref msecondKeys, .ref msecondValues, .ref msecondHeights, .ref msecondHeats, .int mo_foundAt, .int mo_foundLooks, .int mo_foundLane, .int mo_bestsDone, .ref msaved, .ref mbestHeights, .int mo_seenMany, .ref msights, .ref mby, .int mo_seedNow, .int mo_keptRow, .int mo_keptMany, .int mo_keptSecond, .int mo_keptAsked, .int mo_keptLooks, .int mo_keptChanges, .int mo_keptSeen, .ref mkeptKeys, .ref mkeptValues, .ref mkeptHeights, .ref mkeptHeats, .ref mkeptKeys2, .ref mkeptValues2, .ref mkeptHeights2, .ref mkeptHeats2, .ref mkeptSights, .long mo_hash]))] H → va_D A [(mkeys, .inl (cy, 8, .inl mkeys_a)), (mvalues, .inl (cy, 8, .inl mvalues_a)), (mo, .inr (12, [.ref mpage, .int mo_pageMany, .int mo_law, .int mo_many, .int mo_asked, .int mo_looksAll, .int mo_changes, .int mo_rowsRead, .ref mkeys, .ref mvalues, .ref mheights, .ref mheats, .int mo_secondMany, .ref msecondKeys, .ref msecondValues, .ref msecondHeights, .ref msecondHeats, .int mo_foundAt, .int mo_foundLooks, .int mo_foundLane, .int mo_bestsDone, .ref msaved, .ref mbestHeights, .int mo_seenMany, .ref msights, .ref mby, .int mo_seedNow, .int mo_keptRow, .int mo_keptMany, .int mo_keptSecond, .int mo_keptAsked, .int mo_keptLooks, .int mo_keptChanges, .int mo_keptSeen, .ref mkeptKeys, .ref mkeptValues, .ref mkeptHeights, .ref mkeptHeats, .ref mkeptKeys2, .ref mkeptValues2, .ref mkeptHeights2, .ref mkeptHeats2, .ref mkeptSights, .long mo_hash]))] → va_S A s.heap H locs → lv_has ls 5 [(4, .int x4_37), (3, .int x3_37), (0, .ref mo), (1, .int a), (2, .int b)] → W p l e { frames := 2, cells := 0, slots := 0, locals := 45 } s m args below meth c H locs 0 0 Q (F0 m 37 ls []) := by
            intro fu_37
            induction fu_37 with
            | zero =>
              intro x3_37 x4_37 H locs ls hi_37_0 hm hF hP hD hS hl
              exfalso; omega
            | succ fu_37 ih_37 =>
              intro x3_37 x4_37 H locs ls hi_37_0 hm hF hP hD hS hl
              rw [lp_X12_sum_37] at hF
              refine lv_iload hx hb dX12_sum_37 (lv_at hl 0 rfl) ?_
              refine lv_aload_n hx hb dX12_sum_39 rfl (lv_at hl 2 rfl) ?_
              refine va_get (D := D) (ci := 12) (v := .int mo_many) (C := RX12) (T := TX12) (N := 44) hx hb htb inX12 hown hK hP 2 rfl rfl 3 (by decide) (htb _ tw_766) (fun _ h9 => h9) rfl dX12_sum_40 ?_
              refine lv_icmp_ge (tgt := 84) hx hb dX12_sum_43 (by decide) (fun c_24 => ?_) (fun c_24 => ?_)
              · have k_24 : mo_many.toInt ≤ x4_37.toInt := wk_le c_24
                rw [if_pos c_24] at hF
                rw [pm2_mk x3_37 x4_37] at hF
                refine lv_iload_n hx hb dX12_sum_84 rfl (lv_at hl 1 rfl) ?_
                refine W.widen (k := 0) (n := 0) (by decide) (by decide) ?_
                exact hret x3_37 () _ _ _ 85 (wk_sub9 (is := [2, 0, 1]) hP rfl) (hD.sub [2, 0, 1] rfl rfl) hS dX12_sum_85 hF.symm
              · have k_24 : ¬ mo_many.toInt ≤ x4_37.toInt := wk_nle c_24
                rw [if_neg c_24] at hF
                refine lv_iload_n hx hb dX12_sum_46 rfl (lv_at hl 1 rfl) ?_
                refine lv_aload_n hx hb dX12_sum_47 rfl (lv_at hl 2 rfl) ?_
                refine va_get (D := D) (ci := 12) (v := .ref mkeys) (C := RX12) (T := TX12) (N := 44) hx hb htb inX12 hown hK hP 2 rfl rfl 8 (by decide) (htb _ tw_771) (fun _ h9 => h9) rfl dX12_sum_48 ?_
                refine lv_iload hx hb dX12_sum_51 (lv_at hl 0 rfl) ?_
                refine va_iald hx hb hK hP 0 0 rfl rfl (show vp_in x4_37 8 from vp_in_iff.mpr (show 0 ≤ x4_37.toInt ∧ x4_37.toInt < ((8 : Nat) : Int) from by omega)) dX12_sum_53 ?_
                refine lv_i2l (v := (mkeys_a x4_37.toNatClampNeg).toInt64) hx hb dX12_sum_54 rfl ?_
                refine lv_iload_n hx hb dX12_sum_55 rfl (lv_at hl 3 rfl) ?_
                refine lv_i2l (v := a.toInt64) hx hb dX12_sum_56 rfl ?_
                refine lv_iload_n hx hb dX12_sum_57 rfl (lv_at hl 4 rfl) ?_
                refine lv_i2l (v := b.toInt64) hx hb dX12_sum_58 rfl ?_
                refine wk_iS (As := [.long (mkeys_a x4_37.toNatClampNeg).toInt64, .long a.toInt64, .long b.toInt64]) (rest := [.int x3_37]) (wc := []) (wr := [(mkeys, .inl (cy, 8, .inl mkeys_a)), (mvalues, .inl (cy, 8, .inl mvalues_a)), (mo, .inr (12, [.ref mpage, .int mo_pageMany, .int mo_law, .int mo_many, .int mo_asked, .int mo_looksAll, .int mo_changes, .int mo_rowsRead, .ref mkeys, .ref mvalues, .ref mheights, .ref mheats, .int mo_secondMany, .ref msecondKeys, .ref msecondValues, .ref msecondHeights, .ref msecondHeats, .int mo_foundAt, .int mo_foundLooks, .int mo_foundLane, .int mo_bestsDone, .ref msaved, .ref mbestHeights, .int mo_seenMany, .ref msights, .ref mby, .int mo_seedNow, .int mo_keptRow, .int mo_keptMany, .int mo_keptSecond, .int mo_keptAsked, .int mo_keptLooks, .int mo_keptChanges, .int mo_keptSeen, .ref mkeptKeys, .ref mkeptValues, .ref mkeptHeights, .ref mkeptHeats, .ref mkeptKeys2, .ref mkeptValues2, .ref mkeptHeights2, .ref mkeptHeats2, .ref mkeptSights, .long mo_hash]))]) (n := 3) ⟨hx, hb, hml, hown, htb⟩ (c_X12_in l D cy   ((mkeys_a x4_37.toNatClampNeg).toInt64) a.toInt64 b.toInt64 ) tw_903 tw_901 tw_902 tw_71 rfl rfl (by decide +kernel) ⟨Nat.le_of_ble_eq_true rfl, Nat.le_of_ble_eq_true rfl⟩ hK hP hD hS hA [] [0, 1, 2] rfl rfl rfl rfl (by decide) rfl hl.1 rfl (Nat.le_of_ble_eq_true rfl) dX12_sum_59 ⟨Nat.le_of_ble_eq_true rfl, Nat.le_of_ble_eq_true rfl⟩ (fun r_25 u_26 H locs hw_27 hP hD hS => ?_)
                refine W.widen (k := 0) (n := 0) (by decide) (by decide) ?_
                obtain ⟨hw_27, k_28⟩ := hw_27
                have hw_27 : r_25 = (wk_in ((mkeys_a x4_37.toNatClampNeg).toInt64) a.toInt64 b.toInt64) := hw_27
                subst hw_27
                have k_28 : ((wk_in ((mkeys_a x4_37.toNatClampNeg).toInt64) a.toInt64 b.toInt64) = 0 ∨ (wk_in ((mkeys_a x4_37.toNatClampNeg).toInt64) a.toInt64 b.toInt64) = 1) := k_28
                have k_29 : 0 ≤ (wk_in ((mkeys_a x4_37.toNatClampNeg).toInt64) a.toInt64 b.toInt64).toInt ∧ (wk_in ((mkeys_a x4_37.toNatClampNeg).toInt64) a.toInt64 b.toInt64).toInt ≤ 1 := wk_b01 (by assumption)
                have k_30 : ((wk_in ((mkeys_a x4_37.toNatClampNeg).toInt64) a.toInt64 b.toInt64).toInt = 1 ∧ a.toInt ≤ (mkeys_a x4_37.toNatClampNeg).toInt ∧ (mkeys_a x4_37.toNatClampNeg).toInt ≤ b.toInt) ∨ ((wk_in ((mkeys_a x4_37.toNatClampNeg).toInt64) a.toInt64 b.toInt64).toInt = 0 ∧ ¬ (a.toInt ≤ (mkeys_a x4_37.toNatClampNeg).toInt ∧ (mkeys_a x4_37.toNatClampNeg).toInt ≤ b.toInt)) := by have h9 := wk_inf ((mkeys_a x4_37.toNatClampNeg).toInt64) a.toInt64 b.toInt64; simp only [wk_64] at h9; exact h9
                have hP : va_P D classes [(mkeys, .inl (cy, 8, .inl mkeys_a)), (mvalues, .inl (cy, 8, .inl mvalues_a)), (mo, .inr (12, [.ref mpage, .int mo_pageMany, .int mo_law, .int mo_many, .int mo_asked, .int mo_looksAll, .int mo_changes, .int mo_rowsRead, .ref mkeys, .ref mvalues, .ref mheights, .ref mheats, .int mo_secondMany, .ref msecondKeys, .ref msecondValues, .ref msecondHeights, .ref msecondHeats, .int mo_foundAt, .int mo_foundLooks, .int mo_foundLane, .int mo_bestsDone, .ref msaved, .ref mbestHeights, .int mo_seenMany, .ref msights, .ref mby, .int mo_seedNow, .int mo_keptRow, .int mo_keptMany, .int mo_keptSecond, .int mo_keptAsked, .int mo_keptLooks, .int mo_keptChanges, .int mo_keptSeen, .ref mkeptKeys, .ref mkeptValues, .ref mkeptHeights, .ref mkeptHeats, .ref mkeptKeys2, .ref mkeptValues2, .ref mkeptHeights2, .ref mkeptHeats2, .ref mkeptSights, .long mo_hash]))] H := hP
                have hD : va_D A [(mkeys, .inl (cy, 8, .inl mkeys_a)), (mvalues, .inl (cy, 8, .inl mvalues_a)), (mo, .inr (12, [.ref mpage, .int mo_pageMany, .int mo_law, .int mo_many, .int mo_asked, .int mo_looksAll, .int mo_changes, .int mo_rowsRead, .ref mkeys, .ref mvalues, .ref mheights, .ref mheats, .int mo_secondMany, .ref msecondKeys, .ref msecondValues, .ref msecondHeights, .ref msecondHeats, .int mo_foundAt, .int mo_foundLooks, .int mo_foundLane, .int mo_bestsDone, .ref msaved, .ref mbestHeights, .int mo_seenMany, .ref msights, .ref mby, .int mo_seedNow, .int mo_keptRow, .int mo_keptMany, .int mo_keptSecond, .int mo_keptAsked, .int mo_keptLooks, .int mo_keptChanges, .int mo_keptSeen, .ref mkeptKeys, .ref mkeptValues, .ref mkeptHeights, .ref mkeptHeats, .ref mkeptKeys2, .ref mkeptValues2, .ref mkeptHeights2, .ref mkeptHeats2, .ref mkeptSights, .long mo_hash]))] := hD
                refine lv_if_eq (tgt := 75) hx hb dX12_sum_62 (by decide) (fun c_31 => ?_) (fun c_31 => ?_)
                · have k_31 : (wk_in ((mkeys_a x4_37.toNatClampNeg).toInt64) a.toInt64 b.toInt64).toInt = 0 := wk_eq c_31
                  rw [if_pos c_31] at hF
                  refine lv_iconst (v := 0) hx hb dX12_sum_75 (by decide) ?_
                  refine lv_iadd hx hb dX12_sum_76 ?_
                  refine lv_istore_n (lv' := [(3, .int (x3_37 + 0)), (4, .int x4_37), (0, .ref mo), (1, .int a), (2, .int b)]) hx hb dX12_sum_77 rfl hl (by decide) rfl (fun ls hl => ?_)
                  refine lv_iinc (v := (x4_37 + 1)) (lv' := [(4, .int (x4_37 + 1)), (3, .int (x3_37 + 0)), (0, .ref mo), (1, .int a), (2, .int b)]) hx hb dX12_sum_78 hl (k := 1) rfl rfl (by decide) rfl (fun ls hl => ?_)
                  have k_32 : (x4_37 + 1).toInt = x4_37.toInt + 1 := wk_add x4_37.toInt 1 rfl rfl (by omega) (by omega)
                  refine lv_goto (tgt := 37) hx hb dX12_sum_81 (by decide) ?_
                  exact ih_37 (x3_37 + 0) (x4_37 + 1) _ _ _ (show 0 ≤ (x4_37 + 1).toInt ∧ (x4_37 + 1).toInt ≤ 8 from by omega) (show 8 - (x4_37 + 1).toInt < ((fu_37 : Nat) : Int) from by omega) hF hP hD hS (lv_sub hl [0, 1, 2, 3, 4] rfl)
                · have k_31 : ¬ (wk_in ((mkeys_a x4_37.toNatClampNeg).toInt64) a.toInt64 b.toInt64).toInt = 0 := wk_neq c_31
                  rw [if_neg c_31] at hF
                  refine lv_aload_n hx hb dX12_sum_65 rfl (lv_at hl 2 rfl) ?_
                  refine va_get (D := D) (ci := 12) (v := .ref mvalues) (C := RX12) (T := TX12) (N := 44) hx hb htb inX12 hown hK hP 2 rfl rfl 9 (by decide) (htb _ tw_772) (fun _ h9 => h9) rfl dX12_sum_66 ?_
                  refine lv_iload hx hb dX12_sum_69 (lv_at hl 0 rfl) ?_
                  refine va_iald hx hb hK hP 1 0 rfl rfl (show vp_in x4_37 8 from vp_in_iff.mpr (show 0 ≤ x4_37.toInt ∧ x4_37.toInt < ((8 : Nat) : Int) from by omega)) dX12_sum_71 ?_
                  refine lv_goto (tgt := 76) hx hb dX12_sum_72 (by decide) ?_
                  refine lv_iadd hx hb dX12_sum_76 ?_
                  refine lv_istore_n (lv' := [(3, .int (x3_37 + (mvalues_a x4_37.toNatClampNeg))), (4, .int x4_37), (0, .ref mo), (1, .int a), (2, .int b)]) hx hb dX12_sum_77 rfl hl (by decide) rfl (fun ls hl => ?_)
                  refine lv_iinc (v := (x4_37 + 1)) (lv' := [(4, .int (x4_37 + 1)), (3, .int (x3_37 + (mvalues_a x4_37.toNatClampNeg))), (0, .ref mo), (1, .int a), (2, .int b)]) hx hb dX12_sum_78 hl (k := 1) rfl rfl (by decide) rfl (fun ls hl => ?_)
                  have k_33 : (x4_37 + 1).toInt = x4_37.toInt + 1 := wk_add x4_37.toInt 1 rfl rfl (by omega) (by omega)
                  refine lv_goto (tgt := 37) hx hb dX12_sum_81 (by decide) ?_
                  exact ih_37 (x3_37 + (mvalues_a x4_37.toNatClampNeg)) (x4_37 + 1) _ _ _ (show 0 ≤ (x4_37 + 1).toInt ∧ (x4_37 + 1).toInt ≤ 8 from by omega) (show 8 - (x4_37 + 1).toInt < ((fu_37 : Nat) : Int) from by omega) hF hP hD hS (lv_sub hl [0, 1, 2, 3, 4] rfl)
          exact hlp_37 10 0 0 _ _ _ (show 0 ≤ 0 ∧ 0 ≤ 8 from by omega) (show 8 - 0 < ((10 : Nat) : Int) from by omega) hF hP hD hS (lv_sub hl [0, 1, 2, 3, 4] rfl)
        · have k_23 : ¬ (fn_X12_lacks mo_many).toInt = 0 := wk_neq c_23
          rw [if_neg c_23] at hF
          refine lv_bipush (v := (-103)) hx hb dX12_sum_29 (by decide) ?_
          refine W.widen (k := 0) (n := 0) (by decide) (by decide) ?_
          exact hret (-103) () _ _ _ 31 (wk_sub9 (is := [2, 0, 1]) hP rfl) (hD.sub [2, 0, 1] rfl rfl) hS dX12_sum_31 hF.symm
      · have k_15 : ¬ a.toInt ≤ b.toInt := wk_nle c_15
        rw [if_neg c_15] at hF
        refine lv_bipush (v := (-102)) hx hb dX12_sum_19 (by decide) ?_
        refine W.widen (k := 0) (n := 0) (by decide) (by decide) ?_
        exact hret (-102) () _ _ _ 21 (wk_sub9 (is := [0, 1, 2]) hP rfl) (hD.sub [0, 1, 2] rfl rfl) hS dX12_sum_21 hF.symm
def fn_X12_finger (mo_many : Int32) (mo_foundAt : Int32) (mo_foundLooks : Int32) (mo_foundLane : Int32) (mkeys_a : Nat → Int32) (mvalues_a : Nat → Int32) (mheights_a : Nat → Int32) (a : Int32) (b : Int32) (d : Int32) : Int32 × Int32 × Int32 × Int32 := (if (fn_X12_isNumber mo_many a) = 0 then ((-101), mo_foundAt, mo_foundLooks, mo_foundLane) else (if (wk_in b.toInt64 ((mkeys_a a.toNatClampNeg).toInt64) 99) = 0 then ((-102), mo_foundAt, mo_foundLooks, mo_foundLane) else (if (wk_in d.toInt64 0 1) = 0 then ((-102), mo_foundAt, mo_foundLooks, mo_foundLane) else (if b = (mkeys_a a.toNatClampNeg) then (if d = 0 then (a, mo_foundAt, mo_foundLooks, mo_foundLane) else (0, mo_foundAt, mo_foundLooks, mo_foundLane)) else (pm2 (fn_X12_look mo_many mo_foundAt mo_foundLooks mo_foundLane mkeys_a mheights_a a ((mheights_a a.toNatClampNeg) - 1) b 1) (fun o_26 t_ => (pm2 (t_) (fun o_27 o_28 => ((fn_X12_tellFound o_26 o_27 o_28 mvalues_a d), o_26, o_27, o_28)))))))))
theorem dX12_finger_0 : decode cX12_finger 0 = .ok (.aload_n 0, 1) := by decide +kernel
theorem dX12_finger_1 : decode cX12_finger 1 = .ok (.iload_n 1, 1) := by decide +kernel
theorem dX12_finger_2 : decode cX12_finger 2 = .ok (.invokevirtual 192, 3) := by decide +kernel
theorem dX12_finger_5 : decode cX12_finger 5 = .ok (.ifCond .ne 6, 3) := by decide +kernel
theorem dX12_finger_8 : decode cX12_finger 8 = .ok (.bipush (-101), 2) := by decide +kernel
theorem dX12_finger_10 : decode cX12_finger 10 = .ok (.ireturn, 1) := by decide +kernel
theorem dX12_finger_11 : decode cX12_finger 11 = .ok (.iload_n 2, 1) := by decide +kernel
theorem dX12_finger_12 : decode cX12_finger 12 = .ok (.i2l, 1) := by decide +kernel
theorem dX12_finger_13 : decode cX12_finger 13 = .ok (.aload_n 0, 1) := by decide +kernel
theorem dX12_finger_14 : decode cX12_finger 14 = .ok (.getfield 13, 3) := by decide +kernel
theorem dX12_finger_17 : decode cX12_finger 17 = .ok (.iload_n 1, 1) := by decide +kernel
theorem dX12_finger_18 : decode cX12_finger 18 = .ok (.iaload, 1) := by decide +kernel
theorem dX12_finger_19 : decode cX12_finger 19 = .ok (.i2l, 1) := by decide +kernel
theorem dX12_finger_20 : decode cX12_finger 20 = .ok (.ldc2_w 178, 3) := by decide +kernel
theorem dX12_finger_23 : decode cX12_finger 23 = .ok (.invokestatic 82, 3) := by decide +kernel
theorem dX12_finger_26 : decode cX12_finger 26 = .ok (.ifCond .eq 13, 3) := by decide +kernel
theorem dX12_finger_29 : decode cX12_finger 29 = .ok (.iload_n 3, 1) := by decide +kernel
theorem dX12_finger_30 : decode cX12_finger 30 = .ok (.i2l, 1) := by decide +kernel
theorem dX12_finger_31 : decode cX12_finger 31 = .ok (.lconst 0, 1) := by decide +kernel
theorem dX12_finger_32 : decode cX12_finger 32 = .ok (.lconst 1, 1) := by decide +kernel
theorem dX12_finger_33 : decode cX12_finger 33 = .ok (.invokestatic 82, 3) := by decide +kernel
theorem dX12_finger_36 : decode cX12_finger 36 = .ok (.ifCond .ne 6, 3) := by decide +kernel
theorem dX12_finger_39 : decode cX12_finger 39 = .ok (.bipush (-102), 2) := by decide +kernel
theorem dX12_finger_41 : decode cX12_finger 41 = .ok (.ireturn, 1) := by decide +kernel
theorem dX12_finger_42 : decode cX12_finger 42 = .ok (.iload_n 2, 1) := by decide +kernel
theorem dX12_finger_43 : decode cX12_finger 43 = .ok (.aload_n 0, 1) := by decide +kernel
theorem dX12_finger_44 : decode cX12_finger 44 = .ok (.getfield 13, 3) := by decide +kernel
theorem dX12_finger_47 : decode cX12_finger 47 = .ok (.iload_n 1, 1) := by decide +kernel
theorem dX12_finger_48 : decode cX12_finger 48 = .ok (.iaload, 1) := by decide +kernel
theorem dX12_finger_49 : decode cX12_finger 49 = .ok (.if_icmp .ne 13, 3) := by decide +kernel
theorem dX12_finger_52 : decode cX12_finger 52 = .ok (.iload_n 3, 1) := by decide +kernel
theorem dX12_finger_53 : decode cX12_finger 53 = .ok (.ifCond .ne 7, 3) := by decide +kernel
theorem dX12_finger_56 : decode cX12_finger 56 = .ok (.iload_n 1, 1) := by decide +kernel
theorem dX12_finger_57 : decode cX12_finger 57 = .ok (.goto 4, 3) := by decide +kernel
theorem dX12_finger_60 : decode cX12_finger 60 = .ok (.iconst 0, 1) := by decide +kernel
theorem dX12_finger_61 : decode cX12_finger 61 = .ok (.ireturn, 1) := by decide +kernel
theorem dX12_finger_62 : decode cX12_finger 62 = .ok (.aload_n 0, 1) := by decide +kernel
theorem dX12_finger_63 : decode cX12_finger 63 = .ok (.iload_n 1, 1) := by decide +kernel
theorem dX12_finger_64 : decode cX12_finger 64 = .ok (.aload_n 0, 1) := by decide +kernel
theorem dX12_finger_65 : decode cX12_finger 65 = .ok (.getfield 19, 3) := by decide +kernel
theorem dX12_finger_68 : decode cX12_finger 68 = .ok (.iload_n 1, 1) := by decide +kernel
theorem dX12_finger_69 : decode cX12_finger 69 = .ok (.iaload, 1) := by decide +kernel
theorem dX12_finger_70 : decode cX12_finger 70 = .ok (.iconst 1, 1) := by decide +kernel
theorem dX12_finger_71 : decode cX12_finger 71 = .ok (.isub, 1) := by decide +kernel
theorem dX12_finger_72 : decode cX12_finger 72 = .ok (.iload_n 2, 1) := by decide +kernel
theorem dX12_finger_73 : decode cX12_finger 73 = .ok (.iconst 1, 1) := by decide +kernel
theorem dX12_finger_74 : decode cX12_finger 74 = .ok (.invokevirtual 170, 3) := by decide +kernel
theorem dX12_finger_77 : decode cX12_finger 77 = .ok (.aload_n 0, 1) := by decide +kernel
theorem dX12_finger_78 : decode cX12_finger 78 = .ok (.iload_n 3, 1) := by decide +kernel
theorem dX12_finger_79 : decode cX12_finger 79 = .ok (.invokevirtual 189, 3) := by decide +kernel
theorem dX12_finger_82 : decode cX12_finger 82 = .ok (.ireturn, 1) := by decide +kernel
set_option maxHeartbeats 4000000 in
set_option maxRecDepth 100000 in
theorem c_X12_finger (l : Launch) (D : va_G) (cy : ClassId) (mo mpage mkeys mvalues mheights mheats msecondKeys msecondValues msecondHeights msecondHeats msaved mbestHeights msights mby mkeptKeys mkeptValues mkeptHeights mkeptHeats mkeptKeys2 mkeptValues2 mkeptHeights2 mkeptHeats2 mkeptSights : Nat) (mo_pageMany : Int32) (mo_law : Int32) (mo_many : Int32) (mo_asked : Int32) (mo_looksAll : Int32) (mo_changes : Int32) (mo_rowsRead : Int32) (mo_secondMany : Int32) (mo_foundAt : Int32) (mo_foundLooks : Int32) (mo_foundLane : Int32) (mo_bestsDone : Int32) (mo_seenMany : Int32) (mo_seedNow : Int32) (mo_keptRow : Int32) (mo_keptMany : Int32) (mo_keptSecond : Int32) (mo_keptAsked : Int32) (mo_keptLooks : Int32) (mo_keptChanges : Int32) (mo_keptSeen : Int32) (mo_hash : Int64) (mkeys_a : Nat → Int32) (mvalues_a : Nat → Int32) (mheights_a : Nat → Int32) (a : Int32) (b : Int32) (d : Int32) (g_0 : 0 ≤ mo_pageMany.toInt ∧ mo_pageMany.toInt ≤ 44) (g_1 : 0 ≤ mo_many.toInt ∧ mo_many.toInt ≤ 8) (g_2 : 0 ≤ mo_secondMany.toInt ∧ mo_secondMany.toInt ≤ 8) (g_3 : (-1) ≤ mo_foundAt.toInt ∧ mo_foundAt.toInt ≤ 7) (g_4 : 0 ≤ mo_seenMany.toInt ∧ mo_seenMany.toInt ≤ 6) (g_5 : 0 ≤ mo_keptMany.toInt ∧ mo_keptMany.toInt ≤ 8) (g_6 : 0 ≤ mo_keptSecond.toInt ∧ mo_keptSecond.toInt ≤ 8) (g_7 : 0 ≤ mo_keptSeen.toInt ∧ mo_keptSeen.toInt ≤ 6) : wk_Ci l yX12_finger cX12_finger 4 (some .int) { frames := 2, cells := 0, slots := 0, locals := 50 } D cy [.ref mo, .int a, .int b, .int d] [(mo, .inr (12, [.ref mpage, .int mo_pageMany, .int mo_law, .int mo_many, .int mo_asked, .int mo_looksAll, .int mo_changes, .int mo_rowsRead, .ref mkeys, .ref mvalues, .ref mheights, .ref mheats, .int mo_secondMany, .ref msecondKeys, .ref msecondValues, .ref msecondHeights, .ref msecondHeats, .int mo_foundAt, .int mo_foundLooks, .int mo_foundLane, .int mo_bestsDone, .ref msaved, .ref mbestHeights, .int mo_seenMany, .ref msights, .ref mby, .int mo_seedNow, .int mo_keptRow, .int mo_keptMany, .int mo_keptSecond, .int mo_keptAsked, .int mo_keptLooks, .int mo_keptChanges, .int mo_keptSeen, .ref mkeptKeys, .ref mkeptValues, .ref mkeptHeights, .ref mkeptHeats, .ref mkeptKeys2, .ref mkeptValues2, .ref mkeptHeights2, .ref mkeptHeats2, .ref mkeptSights, .long mo_hash])), (mkeys, .inl (cy, 8, .inl mkeys_a)), (mvalues, .inl (cy, 8, .inl mvalues_a)), (mheights, .inl (cy, 8, .inl mheights_a))] 0 0 (fun (r : Int32) (u : Int32 × Int32 × Int32) => (r, u) = (fn_X12_finger mo_many mo_foundAt mo_foundLooks mo_foundLane mkeys_a mvalues_a mheights_a a b d) ∧ ((-1) ≤ u.1.toInt ∧ u.1.toInt ≤ 7)) (fun u => [(mo, .inr (12, [.ref mpage, .int mo_pageMany, .int mo_law, .int mo_many, .int mo_asked, .int mo_looksAll, .int mo_changes, .int mo_rowsRead, .ref mkeys, .ref mvalues, .ref mheights, .ref mheats, .int mo_secondMany, .ref msecondKeys, .ref msecondValues, .ref msecondHeights, .ref msecondHeats, .int u.1, .int u.2.1, .int u.2.2, .int mo_bestsDone, .ref msaved, .ref mbestHeights, .int mo_seenMany, .ref msights, .ref mby, .int mo_seedNow, .int mo_keptRow, .int mo_keptMany, .int mo_keptSecond, .int mo_keptAsked, .int mo_keptLooks, .int mo_keptChanges, .int mo_keptSeen, .ref mkeptKeys, .ref mkeptValues, .ref mkeptHeights, .ref mkeptHeats, .ref mkeptKeys2, .ref mkeptValues2, .ref mkeptHeights2, .ref mkeptHeats2, .ref mkeptSights, .long mo_hash])), (mkeys, .inl (cy, 8, .inl mkeys_a)), (mvalues, .inl (cy, 8, .inl mvalues_a)), (mheights, .inl (cy, 8, .inl mheights_a))]) := by
  refine wk_mk2Ci (by decide) (Nat.le_of_ble_eq_true rfl) ?_
  intro p e s m args below meth c A ls Q B hA hK hP hD hS hl hret
  obtain ⟨hx, hb, hr, hlocks, hml, hown, htb, hin⟩ := B
  have hl : lv_has ls 4 [(0, .ref mo), (1, .int a), (2, .int b), (3, .int d)] := hl
  have hF : (fn_X12_finger mo_many mo_foundAt mo_foundLooks mo_foundLane mkeys_a mvalues_a mheights_a a b d) = (fn_X12_finger mo_many mo_foundAt mo_foundLooks mo_foundLane mkeys_a mvalues_a mheights_a a b d) := rfl
  conv at hF => rhs; unfold fn_X12_finger
  refine lv_aload_n hx hb dX12_finger_0 rfl (lv_at hl 0 rfl) ?_
  refine lv_iload_n hx hb dX12_finger_1 rfl (lv_at hl 1 rfl) ?_
  refine wk_iV (As := [.int a]) (rest := []) (wc := [(mo, .inr (12, [.ref mpage, .int mo_pageMany, .int mo_law, .int mo_many, .int mo_asked, .int mo_looksAll, .int mo_changes, .int mo_rowsRead, .ref mkeys, .ref mvalues, .ref mheights, .ref mheats, .int mo_secondMany, .ref msecondKeys, .ref msecondValues, .ref msecondHeights, .ref msecondHeats, .int mo_foundAt, .int mo_foundLooks, .int mo_foundLane, .int mo_bestsDone, .ref msaved, .ref mbestHeights, .int mo_seenMany, .ref msights, .ref mby, .int mo_seedNow, .int mo_keptRow, .int mo_keptMany, .int mo_keptSecond, .int mo_keptAsked, .int mo_keptLooks, .int mo_keptChanges, .int mo_keptSeen, .ref mkeptKeys, .ref mkeptValues, .ref mkeptHeights, .ref mkeptHeats, .ref mkeptKeys2, .ref mkeptValues2, .ref mkeptHeights2, .ref mkeptHeats2, .ref mkeptSights, .long mo_hash]))]) (wr := [(mkeys, .inl (cy, 8, .inl mkeys_a)), (mvalues, .inl (cy, 8, .inl mvalues_a)), (mheights, .inl (cy, 8, .inl mheights_a))]) (n := 1) ⟨hx, hb, hml, hown, htb⟩ (c_X12_isNumber l D cy mo mpage mkeys mvalues mheights mheats msecondKeys msecondValues msecondHeights msecondHeats msaved mbestHeights msights mby mkeptKeys mkeptValues mkeptHeights mkeptHeats mkeptKeys2 mkeptValues2 mkeptHeights2 mkeptHeats2 mkeptSights mo_pageMany mo_law mo_many mo_asked mo_looksAll mo_changes mo_rowsRead mo_secondMany mo_foundAt mo_foundLooks mo_foundLane mo_bestsDone mo_seenMany mo_seedNow mo_keptRow mo_keptMany mo_keptSecond mo_keptAsked mo_keptLooks mo_keptChanges mo_keptSeen mo_hash a (show 0 ≤ mo_pageMany.toInt ∧ mo_pageMany.toInt ≤ 44 from by omega) (show 0 ≤ mo_many.toInt ∧ mo_many.toInt ≤ 8 from by omega) (show 0 ≤ mo_secondMany.toInt ∧ mo_secondMany.toInt ≤ 8 from by omega) (show (-1) ≤ mo_foundAt.toInt ∧ mo_foundAt.toInt ≤ 7 from by omega) (show 0 ≤ mo_seenMany.toInt ∧ mo_seenMany.toInt ≤ 6 from by omega) (show 0 ≤ mo_keptMany.toInt ∧ mo_keptMany.toInt ≤ 8 from by omega) (show 0 ≤ mo_keptSecond.toInt ∧ mo_keptSecond.toInt ≤ 8 from by omega) (show 0 ≤ mo_keptSeen.toInt ∧ mo_keptSeen.toInt ≤ 6 from by omega)) tw_997 tw_994 tw_996 tw_35 tw_71 rfl rfl (by decide +kernel) ⟨Nat.le_of_ble_eq_true rfl, Nat.le_of_ble_eq_true rfl⟩ hK hP hD hS hA [0] [1, 2, 3] rfl rfl rfl rfl (by decide) 0 (ci := 12) rfl rfl rfl hl.1 rfl (Nat.le_of_ble_eq_true rfl) dX12_finger_2 ⟨Nat.le_of_ble_eq_true rfl, Nat.le_of_ble_eq_true rfl⟩ (fun r_1 u_2 H locs hw_3 hP hD hS => ?_)
  refine W.widen (k := 0) (n := 0) (by decide) (by decide) ?_
  obtain ⟨hw_3, k_4, k_5⟩ := hw_3
  have hw_3 : r_1 = (fn_X12_isNumber mo_many a) := hw_3
  subst hw_3
  have k_4 : ((fn_X12_isNumber mo_many a) = 0 ∨ (fn_X12_isNumber mo_many a) = 1) := k_4
  have k_5 : ((fn_X12_isNumber mo_many a).toInt = 0 ∨ (0 ≤ a.toInt ∧ a.toInt < mo_many.toInt)) := k_5
  have k_6 : 0 ≤ (fn_X12_isNumber mo_many a).toInt ∧ (fn_X12_isNumber mo_many a).toInt ≤ 1 := wk_b01 (by assumption)
  have hP : va_P D classes [(mkeys, .inl (cy, 8, .inl mkeys_a)), (mvalues, .inl (cy, 8, .inl mvalues_a)), (mheights, .inl (cy, 8, .inl mheights_a)), (mo, .inr (12, [.ref mpage, .int mo_pageMany, .int mo_law, .int mo_many, .int mo_asked, .int mo_looksAll, .int mo_changes, .int mo_rowsRead, .ref mkeys, .ref mvalues, .ref mheights, .ref mheats, .int mo_secondMany, .ref msecondKeys, .ref msecondValues, .ref msecondHeights, .ref msecondHeats, .int mo_foundAt, .int mo_foundLooks, .int mo_foundLane, .int mo_bestsDone, .ref msaved, .ref mbestHeights, .int mo_seenMany, .ref msights, .ref mby, .int mo_seedNow, .int mo_keptRow, .int mo_keptMany, .int mo_keptSecond, .int mo_keptAsked, .int mo_keptLooks, .int mo_keptChanges, .int mo_keptSeen, .ref mkeptKeys, .ref mkeptValues, .ref mkeptHeights, .ref mkeptHeats, .ref mkeptKeys2, .ref mkeptValues2, .ref mkeptHeights2, .ref mkeptHeats2, .ref mkeptSights, .long mo_hash]))] H := hP
  have hD : va_D A [(mkeys, .inl (cy, 8, .inl mkeys_a)), (mvalues, .inl (cy, 8, .inl mvalues_a)), (mheights, .inl (cy, 8, .inl mheights_a)), (mo, .inr (12, [.ref mpage, .int mo_pageMany, .int mo_law, .int mo_many, .int mo_asked, .int mo_looksAll, .int mo_changes, .int mo_rowsRead, .ref mkeys, .ref mvalues, .ref mheights, .ref mheats, .int mo_secondMany, .ref msecondKeys, .ref msecondValues, .ref msecondHeights, .ref msecondHeats, .int mo_foundAt, .int mo_foundLooks, .int mo_foundLane, .int mo_bestsDone, .ref msaved, .ref mbestHeights, .int mo_seenMany, .ref msights, .ref mby, .int mo_seedNow, .int mo_keptRow, .int mo_keptMany, .int mo_keptSecond, .int mo_keptAsked, .int mo_keptLooks, .int mo_keptChanges, .int mo_keptSeen, .ref mkeptKeys, .ref mkeptValues, .ref mkeptHeights, .ref mkeptHeats, .ref mkeptKeys2, .ref mkeptValues2, .ref mkeptHeights2, .ref mkeptHeats2, .ref mkeptSights, .long mo_hash]))] := hD
  refine lv_if_ne (tgt := 11) hx hb dX12_finger_5 (by decide) (fun c_7 => ?_) (fun c_7 => ?_)
  · have k_7 : ¬ (fn_X12_isNumber mo_many a).toInt = 0 := wk_neq c_7
    rw [if_neg c_7] at hF
    refine lv_iload_n hx hb dX12_finger_11 rfl (lv_at hl 2 rfl) ?_
    refine lv_i2l (v := b.toInt64) hx hb dX12_finger_12 rfl ?_
    refine lv_aload_n hx hb dX12_finger_13 rfl (lv_at hl 0 rfl) ?_
    refine va_get (D := D) (ci := 12) (v := .ref mkeys) (C := RX12) (T := TX12) (N := 44) hx hb htb inX12 hown hK hP 3 rfl rfl 8 (by decide) (htb _ tw_771) (fun _ h9 => h9) rfl dX12_finger_14 ?_
    refine lv_iload_n hx hb dX12_finger_17 rfl (lv_at hl 1 rfl) ?_
    refine va_iald hx hb hK hP 0 0 rfl rfl (show vp_in a 8 from vp_in_iff.mpr (show 0 ≤ a.toInt ∧ a.toInt < ((8 : Nat) : Int) from by omega)) dX12_finger_18 ?_
    refine lv_i2l (v := (mkeys_a a.toNatClampNeg).toInt64) hx hb dX12_finger_19 rfl ?_
    refine lv_ldc2 (v := 99) hx hb hown (htb _ tw_964) dX12_finger_20 ?_
    refine wk_iS (As := [.long b.toInt64, .long (mkeys_a a.toNatClampNeg).toInt64, .long 99]) (rest := []) (wc := []) (wr := [(mkeys, .inl (cy, 8, .inl mkeys_a)), (mvalues, .inl (cy, 8, .inl mvalues_a)), (mheights, .inl (cy, 8, .inl mheights_a)), (mo, .inr (12, [.ref mpage, .int mo_pageMany, .int mo_law, .int mo_many, .int mo_asked, .int mo_looksAll, .int mo_changes, .int mo_rowsRead, .ref mkeys, .ref mvalues, .ref mheights, .ref mheats, .int mo_secondMany, .ref msecondKeys, .ref msecondValues, .ref msecondHeights, .ref msecondHeats, .int mo_foundAt, .int mo_foundLooks, .int mo_foundLane, .int mo_bestsDone, .ref msaved, .ref mbestHeights, .int mo_seenMany, .ref msights, .ref mby, .int mo_seedNow, .int mo_keptRow, .int mo_keptMany, .int mo_keptSecond, .int mo_keptAsked, .int mo_keptLooks, .int mo_keptChanges, .int mo_keptSeen, .ref mkeptKeys, .ref mkeptValues, .ref mkeptHeights, .ref mkeptHeats, .ref mkeptKeys2, .ref mkeptValues2, .ref mkeptHeights2, .ref mkeptHeats2, .ref mkeptSights, .long mo_hash]))]) (n := 3) ⟨hx, hb, hml, hown, htb⟩ (c_X12_in l D cy   b.toInt64 ((mkeys_a a.toNatClampNeg).toInt64) 99 ) tw_903 tw_901 tw_902 tw_71 rfl rfl (by decide +kernel) ⟨Nat.le_of_ble_eq_true rfl, Nat.le_of_ble_eq_true rfl⟩ hK hP hD hS hA [] [0, 1, 2, 3] rfl rfl rfl rfl (by decide) rfl hl.1 rfl (Nat.le_of_ble_eq_true rfl) dX12_finger_23 ⟨Nat.le_of_ble_eq_true rfl, Nat.le_of_ble_eq_true rfl⟩ (fun r_8 u_9 H locs hw_10 hP hD hS => ?_)
    refine W.widen (k := 0) (n := 0) (by decide) (by decide) ?_
    obtain ⟨hw_10, k_11⟩ := hw_10
    have hw_10 : r_8 = (wk_in b.toInt64 ((mkeys_a a.toNatClampNeg).toInt64) 99) := hw_10
    subst hw_10
    have k_11 : ((wk_in b.toInt64 ((mkeys_a a.toNatClampNeg).toInt64) 99) = 0 ∨ (wk_in b.toInt64 ((mkeys_a a.toNatClampNeg).toInt64) 99) = 1) := k_11
    have k_12 : 0 ≤ (wk_in b.toInt64 ((mkeys_a a.toNatClampNeg).toInt64) 99).toInt ∧ (wk_in b.toInt64 ((mkeys_a a.toNatClampNeg).toInt64) 99).toInt ≤ 1 := wk_b01 (by assumption)
    have k_13 : ((wk_in b.toInt64 ((mkeys_a a.toNatClampNeg).toInt64) 99).toInt = 1 ∧ (mkeys_a a.toNatClampNeg).toInt ≤ b.toInt ∧ b.toInt ≤ 99) ∨ ((wk_in b.toInt64 ((mkeys_a a.toNatClampNeg).toInt64) 99).toInt = 0 ∧ ¬ ((mkeys_a a.toNatClampNeg).toInt ≤ b.toInt ∧ b.toInt ≤ 99)) := by have h9 := wk_inf b.toInt64 ((mkeys_a a.toNatClampNeg).toInt64) 99; simp only [wk_64] at h9; exact h9
    have hP : va_P D classes [(mkeys, .inl (cy, 8, .inl mkeys_a)), (mvalues, .inl (cy, 8, .inl mvalues_a)), (mheights, .inl (cy, 8, .inl mheights_a)), (mo, .inr (12, [.ref mpage, .int mo_pageMany, .int mo_law, .int mo_many, .int mo_asked, .int mo_looksAll, .int mo_changes, .int mo_rowsRead, .ref mkeys, .ref mvalues, .ref mheights, .ref mheats, .int mo_secondMany, .ref msecondKeys, .ref msecondValues, .ref msecondHeights, .ref msecondHeats, .int mo_foundAt, .int mo_foundLooks, .int mo_foundLane, .int mo_bestsDone, .ref msaved, .ref mbestHeights, .int mo_seenMany, .ref msights, .ref mby, .int mo_seedNow, .int mo_keptRow, .int mo_keptMany, .int mo_keptSecond, .int mo_keptAsked, .int mo_keptLooks, .int mo_keptChanges, .int mo_keptSeen, .ref mkeptKeys, .ref mkeptValues, .ref mkeptHeights, .ref mkeptHeats, .ref mkeptKeys2, .ref mkeptValues2, .ref mkeptHeights2, .ref mkeptHeats2, .ref mkeptSights, .long mo_hash]))] H := hP
    have hD : va_D A [(mkeys, .inl (cy, 8, .inl mkeys_a)), (mvalues, .inl (cy, 8, .inl mvalues_a)), (mheights, .inl (cy, 8, .inl mheights_a)), (mo, .inr (12, [.ref mpage, .int mo_pageMany, .int mo_law, .int mo_many, .int mo_asked, .int mo_looksAll, .int mo_changes, .int mo_rowsRead, .ref mkeys, .ref mvalues, .ref mheights, .ref mheats, .int mo_secondMany, .ref msecondKeys, .ref msecondValues, .ref msecondHeights, .ref msecondHeats, .int mo_foundAt, .int mo_foundLooks, .int mo_foundLane, .int mo_bestsDone, .ref msaved, .ref mbestHeights, .int mo_seenMany, .ref msights, .ref mby, .int mo_seedNow, .int mo_keptRow, .int mo_keptMany, .int mo_keptSecond, .int mo_keptAsked, .int mo_keptLooks, .int mo_keptChanges, .int mo_keptSeen, .ref mkeptKeys, .ref mkeptValues, .ref mkeptHeights, .ref mkeptHeats, .ref mkeptKeys2, .ref mkeptValues2, .ref mkeptHeights2, .ref mkeptHeats2, .ref mkeptSights, .long mo_hash]))] := hD
    refine lv_if_eq (tgt := 39) hx hb dX12_finger_26 (by decide) (fun c_14 => ?_) (fun c_14 => ?_)
    · have k_14 : (wk_in b.toInt64 ((mkeys_a a.toNatClampNeg).toInt64) 99).toInt = 0 := wk_eq c_14
      rw [if_pos c_14] at hF
      refine lv_bipush (v := (-102)) hx hb dX12_finger_39 (by decide) ?_
      refine W.widen (k := 0) (n := 0) (by decide) (by decide) ?_
      exact hret (-102) (mo_foundAt, mo_foundLooks, mo_foundLane) _ _ _ 41 (wk_sub9 (is := [3, 0, 1, 2]) hP rfl) (hD.sub [3, 0, 1, 2] rfl rfl) hS dX12_finger_41 ⟨hF.symm, (show ((-1) ≤ mo_foundAt.toInt ∧ mo_foundAt.toInt ≤ 7) from by omega)⟩
    · have k_14 : ¬ (wk_in b.toInt64 ((mkeys_a a.toNatClampNeg).toInt64) 99).toInt = 0 := wk_neq c_14
      rw [if_neg c_14] at hF
      refine lv_iload_n hx hb dX12_finger_29 rfl (lv_at hl 3 rfl) ?_
      refine lv_i2l (v := d.toInt64) hx hb dX12_finger_30 rfl ?_
      refine lv_lconst (v := 0) hx hb dX12_finger_31 (by decide) ?_
      refine lv_lconst (v := 1) hx hb dX12_finger_32 (by decide) ?_
      refine wk_iS (As := [.long d.toInt64, .long 0, .long 1]) (rest := []) (wc := []) (wr := [(mkeys, .inl (cy, 8, .inl mkeys_a)), (mvalues, .inl (cy, 8, .inl mvalues_a)), (mheights, .inl (cy, 8, .inl mheights_a)), (mo, .inr (12, [.ref mpage, .int mo_pageMany, .int mo_law, .int mo_many, .int mo_asked, .int mo_looksAll, .int mo_changes, .int mo_rowsRead, .ref mkeys, .ref mvalues, .ref mheights, .ref mheats, .int mo_secondMany, .ref msecondKeys, .ref msecondValues, .ref msecondHeights, .ref msecondHeats, .int mo_foundAt, .int mo_foundLooks, .int mo_foundLane, .int mo_bestsDone, .ref msaved, .ref mbestHeights, .int mo_seenMany, .ref msights, .ref mby, .int mo_seedNow, .int mo_keptRow, .int mo_keptMany, .int mo_keptSecond, .int mo_keptAsked, .int mo_keptLooks, .int mo_keptChanges, .int mo_keptSeen, .ref mkeptKeys, .ref mkeptValues, .ref mkeptHeights, .ref mkeptHeats, .ref mkeptKeys2, .ref mkeptValues2, .ref mkeptHeights2, .ref mkeptHeats2, .ref mkeptSights, .long mo_hash]))]) (n := 3) ⟨hx, hb, hml, hown, htb⟩ (c_X12_in l D cy   d.toInt64 0 1 ) tw_903 tw_901 tw_902 tw_71 rfl rfl (by decide +kernel) ⟨Nat.le_of_ble_eq_true rfl, Nat.le_of_ble_eq_true rfl⟩ hK hP hD hS hA [] [0, 1, 2, 3] rfl rfl rfl rfl (by decide) rfl hl.1 rfl (Nat.le_of_ble_eq_true rfl) dX12_finger_33 ⟨Nat.le_of_ble_eq_true rfl, Nat.le_of_ble_eq_true rfl⟩ (fun r_15 u_16 H locs hw_17 hP hD hS => ?_)
      refine W.widen (k := 0) (n := 0) (by decide) (by decide) ?_
      obtain ⟨hw_17, k_18⟩ := hw_17
      have hw_17 : r_15 = (wk_in d.toInt64 0 1) := hw_17
      subst hw_17
      have k_18 : ((wk_in d.toInt64 0 1) = 0 ∨ (wk_in d.toInt64 0 1) = 1) := k_18
      have k_19 : 0 ≤ (wk_in d.toInt64 0 1).toInt ∧ (wk_in d.toInt64 0 1).toInt ≤ 1 := wk_b01 (by assumption)
      have k_20 : ((wk_in d.toInt64 0 1).toInt = 1 ∧ 0 ≤ d.toInt ∧ d.toInt ≤ 1) ∨ ((wk_in d.toInt64 0 1).toInt = 0 ∧ ¬ (0 ≤ d.toInt ∧ d.toInt ≤ 1)) := by have h9 := wk_inf d.toInt64 0 1; simp only [wk_64] at h9; exact h9
      have hP : va_P D classes [(mkeys, .inl (cy, 8, .inl mkeys_a)), (mvalues, .inl (cy, 8, .inl mvalues_a)), (mheights, .inl (cy, 8, .inl mheights_a)), (mo, .inr (12, [.ref mpage, .int mo_pageMany, .int mo_law, .int mo_many, .int mo_asked, .int mo_looksAll, .int mo_changes, .int mo_rowsRead, .ref mkeys, .ref mvalues, .ref mheights, .ref mheats, .int mo_secondMany, .ref msecondKeys, .ref msecondValues, .ref msecondHeights, .ref msecondHeats, .int mo_foundAt, .int mo_foundLooks, .int mo_foundLane, .int mo_bestsDone, .ref msaved, .ref mbestHeights, .int mo_seenMany, .ref msights, .ref mby, .int mo_seedNow, .int mo_keptRow, .int mo_keptMany, .int mo_keptSecond, .int mo_keptAsked, .int mo_keptLooks, .int mo_keptChanges, .int mo_keptSeen, .ref mkeptKeys, .ref mkeptValues, .ref mkeptHeights, .ref mkeptHeats, .ref mkeptKeys2, .ref mkeptValues2, .ref mkeptHeights2, .ref mkeptHeats2, .ref mkeptSights, .long mo_hash]))] H := hP
      have hD : va_D A [(mkeys, .inl (cy, 8, .inl mkeys_a)), (mvalues, .inl (cy, 8, .inl mvalues_a)), (mheights, .inl (cy, 8, .inl mheights_a)), (mo, .inr (12, [.ref mpage, .int mo_pageMany, .int mo_law, .int mo_many, .int mo_asked, .int mo_looksAll, .int mo_changes, .int mo_rowsRead, .ref mkeys, .ref mvalues, .ref mheights, .ref mheats, .int mo_secondMany, .ref msecondKeys, .ref msecondValues, .ref msecondHeights, .ref msecondHeats, .int mo_foundAt, .int mo_foundLooks, .int mo_foundLane, .int mo_bestsDone, .ref msaved, .ref mbestHeights, .int mo_seenMany, .ref msights, .ref mby, .int mo_seedNow, .int mo_keptRow, .int mo_keptMany, .int mo_keptSecond, .int mo_keptAsked, .int mo_keptLooks, .int mo_keptChanges, .int mo_keptSeen, .ref mkeptKeys, .ref mkeptValues, .ref mkeptHeights, .ref mkeptHeats, .ref mkeptKeys2, .ref mkeptValues2, .ref mkeptHeights2, .ref mkeptHeats2, .ref mkeptSights, .long mo_hash]))] := hD
      refine lv_if_ne (tgt := 42) hx hb dX12_finger_36 (by decide) (fun c_21 => ?_) (fun c_21 => ?_)
      · have k_21 : ¬ (wk_in d.toInt64 0 1).toInt = 0 := wk_neq c_21
        rw [if_neg c_21] at hF
        refine lv_iload_n hx hb dX12_finger_42 rfl (lv_at hl 2 rfl) ?_
        refine lv_aload_n hx hb dX12_finger_43 rfl (lv_at hl 0 rfl) ?_
        refine va_get (D := D) (ci := 12) (v := .ref mkeys) (C := RX12) (T := TX12) (N := 44) hx hb htb inX12 hown hK hP 3 rfl rfl 8 (by decide) (htb _ tw_771) (fun _ h9 => h9) rfl dX12_finger_44 ?_
        refine lv_iload_n hx hb dX12_finger_47 rfl (lv_at hl 1 rfl) ?_
        refine va_iald hx hb hK hP 0 0 rfl rfl (show vp_in a 8 from vp_in_iff.mpr (show 0 ≤ a.toInt ∧ a.toInt < ((8 : Nat) : Int) from by omega)) dX12_finger_48 ?_
        refine lv_icmp_ne (tgt := 62) hx hb dX12_finger_49 (by decide) (fun c_22 => ?_) (fun c_22 => ?_)
        · have k_22 : ¬ b.toInt = (mkeys_a a.toNatClampNeg).toInt := wk_neq c_22
          rw [if_neg c_22] at hF
          refine lv_aload_n hx hb dX12_finger_62 rfl (lv_at hl 0 rfl) ?_
          refine lv_iload_n hx hb dX12_finger_63 rfl (lv_at hl 1 rfl) ?_
          refine lv_aload_n hx hb dX12_finger_64 rfl (lv_at hl 0 rfl) ?_
          refine va_get (D := D) (ci := 12) (v := .ref mheights) (C := RX12) (T := TX12) (N := 44) hx hb htb inX12 hown hK hP 3 rfl rfl 10 (by decide) (htb _ tw_773) (fun _ h9 => h9) rfl dX12_finger_65 ?_
          refine lv_iload_n hx hb dX12_finger_68 rfl (lv_at hl 1 rfl) ?_
          refine va_iald hx hb hK hP 2 0 rfl rfl (show vp_in a 8 from vp_in_iff.mpr (show 0 ≤ a.toInt ∧ a.toInt < ((8 : Nat) : Int) from by omega)) dX12_finger_69 ?_
          refine lv_iconst (v := 1) hx hb dX12_finger_70 (by decide) ?_
          refine lv_isub hx hb dX12_finger_71 ?_
          refine lv_iload_n hx hb dX12_finger_72 rfl (lv_at hl 2 rfl) ?_
          refine lv_iconst (v := 1) hx hb dX12_finger_73 (by decide) ?_
          refine wk_vV (As := [.int a, .int ((mheights_a a.toNatClampNeg) - 1), .int b, .int 1]) (rest := []) (wc := [(mo, .inr (12, [.ref mpage, .int mo_pageMany, .int mo_law, .int mo_many, .int mo_asked, .int mo_looksAll, .int mo_changes, .int mo_rowsRead, .ref mkeys, .ref mvalues, .ref mheights, .ref mheats, .int mo_secondMany, .ref msecondKeys, .ref msecondValues, .ref msecondHeights, .ref msecondHeats, .int mo_foundAt, .int mo_foundLooks, .int mo_foundLane, .int mo_bestsDone, .ref msaved, .ref mbestHeights, .int mo_seenMany, .ref msights, .ref mby, .int mo_seedNow, .int mo_keptRow, .int mo_keptMany, .int mo_keptSecond, .int mo_keptAsked, .int mo_keptLooks, .int mo_keptChanges, .int mo_keptSeen, .ref mkeptKeys, .ref mkeptValues, .ref mkeptHeights, .ref mkeptHeats, .ref mkeptKeys2, .ref mkeptValues2, .ref mkeptHeights2, .ref mkeptHeats2, .ref mkeptSights, .long mo_hash])), (mkeys, .inl (cy, 8, .inl mkeys_a)), (mheights, .inl (cy, 8, .inl mheights_a))]) (wr := [(mvalues, .inl (cy, 8, .inl mvalues_a))]) (n := 4) ⟨hx, hb, hml, hown, htb⟩ (c_X12_look l D cy mo mpage mkeys mvalues mheights mheats msecondKeys msecondValues msecondHeights msecondHeats msaved mbestHeights msights mby mkeptKeys mkeptValues mkeptHeights mkeptHeats mkeptKeys2 mkeptValues2 mkeptHeights2 mkeptHeats2 mkeptSights mo_pageMany mo_law mo_many mo_asked mo_looksAll mo_changes mo_rowsRead mo_secondMany mo_foundAt mo_foundLooks mo_foundLane mo_bestsDone mo_seenMany mo_seedNow mo_keptRow mo_keptMany mo_keptSecond mo_keptAsked mo_keptLooks mo_keptChanges mo_keptSeen mo_hash mkeys_a mheights_a a ((mheights_a a.toNatClampNeg) - 1) b 1 (show 0 ≤ mo_pageMany.toInt ∧ mo_pageMany.toInt ≤ 44 from by omega) (show 0 ≤ mo_many.toInt ∧ mo_many.toInt ≤ 8 from by omega) (show 0 ≤ mo_secondMany.toInt ∧ mo_secondMany.toInt ≤ 8 from by omega) (show (-1) ≤ mo_foundAt.toInt ∧ mo_foundAt.toInt ≤ 7 from by omega) (show 0 ≤ mo_seenMany.toInt ∧ mo_seenMany.toInt ≤ 6 from by omega) (show 0 ≤ mo_keptMany.toInt ∧ mo_keptMany.toInt ≤ 8 from by omega) (show 0 ≤ mo_keptSecond.toInt ∧ mo_keptSecond.toInt ≤ 8 from by omega) (show 0 ≤ mo_keptSeen.toInt ∧ mo_keptSeen.toInt ≤ 6 from by omega) (show (-1) ≤ a.toInt ∧ a.toInt ≤ 7 from by omega)) tw_981 tw_978 tw_980 tw_32 tw_71 rfl rfl (by decide +kernel) ⟨Nat.le_of_ble_eq_true rfl, Nat.le_of_ble_eq_true rfl⟩ hK hP hD hS hA [3, 0, 2] [1] rfl rfl rfl rfl (by decide) 0 (ci := 12) rfl rfl rfl hl.1 rfl (Nat.le_of_ble_eq_true rfl) dX12_finger_74 ⟨Nat.le_of_ble_eq_true rfl, Nat.le_of_ble_eq_true rfl⟩ (fun u_24 H locs hw_25 hP hD hS => ?_)
          refine W.widen (k := 0) (n := 0) (by decide) (by decide) ?_
          obtain ⟨o_26, o_27, o_28⟩ := u_24
          obtain ⟨hw_25, k_29⟩ := hw_25
          have hw_25 : (o_26, o_27, o_28) = (fn_X12_look mo_many mo_foundAt mo_foundLooks mo_foundLane mkeys_a mheights_a a ((mheights_a a.toNatClampNeg) - 1) b 1) := hw_25
          have k_29 : ((-1) ≤ o_26.toInt ∧ o_26.toInt ≤ 7) := k_29
          rw [← hw_25] at hF
          rw [pm2_mk o_26 (o_27, o_28), pm2_mk o_27 o_28] at hF
          have hP : va_P D classes [(mvalues, .inl (cy, 8, .inl mvalues_a)), (mo, .inr (12, [.ref mpage, .int mo_pageMany, .int mo_law, .int mo_many, .int mo_asked, .int mo_looksAll, .int mo_changes, .int mo_rowsRead, .ref mkeys, .ref mvalues, .ref mheights, .ref mheats, .int mo_secondMany, .ref msecondKeys, .ref msecondValues, .ref msecondHeights, .ref msecondHeats, .int o_26, .int o_27, .int o_28, .int mo_bestsDone, .ref msaved, .ref mbestHeights, .int mo_seenMany, .ref msights, .ref mby, .int mo_seedNow, .int mo_keptRow, .int mo_keptMany, .int mo_keptSecond, .int mo_keptAsked, .int mo_keptLooks, .int mo_keptChanges, .int mo_keptSeen, .ref mkeptKeys, .ref mkeptValues, .ref mkeptHeights, .ref mkeptHeats, .ref mkeptKeys2, .ref mkeptValues2, .ref mkeptHeights2, .ref mkeptHeats2, .ref mkeptSights, .long mo_hash])), (mkeys, .inl (cy, 8, .inl mkeys_a)), (mheights, .inl (cy, 8, .inl mheights_a))] H := hP
          have hD : va_D A [(mvalues, .inl (cy, 8, .inl mvalues_a)), (mo, .inr (12, [.ref mpage, .int mo_pageMany, .int mo_law, .int mo_many, .int mo_asked, .int mo_looksAll, .int mo_changes, .int mo_rowsRead, .ref mkeys, .ref mvalues, .ref mheights, .ref mheats, .int mo_secondMany, .ref msecondKeys, .ref msecondValues, .ref msecondHeights, .ref msecondHeats, .int o_26, .int o_27, .int o_28, .int mo_bestsDone, .ref msaved, .ref mbestHeights, .int mo_seenMany, .ref msights, .ref mby, .int mo_seedNow, .int mo_keptRow, .int mo_keptMany, .int mo_keptSecond, .int mo_keptAsked, .int mo_keptLooks, .int mo_keptChanges, .int mo_keptSeen, .ref mkeptKeys, .ref mkeptValues, .ref mkeptHeights, .ref mkeptHeats, .ref mkeptKeys2, .ref mkeptValues2, .ref mkeptHeights2, .ref mkeptHeats2, .ref mkeptSights, .long mo_hash])), (mkeys, .inl (cy, 8, .inl mkeys_a)), (mheights, .inl (cy, 8, .inl mheights_a))] := hD
          refine lv_aload_n hx hb dX12_finger_77 rfl (lv_at hl 0 rfl) ?_
          refine lv_iload_n hx hb dX12_finger_78 rfl (lv_at hl 3 rfl) ?_
          refine wk_iV (As := [.int d]) (rest := []) (wc := [(mo, .inr (12, [.ref mpage, .int mo_pageMany, .int mo_law, .int mo_many, .int mo_asked, .int mo_looksAll, .int mo_changes, .int mo_rowsRead, .ref mkeys, .ref mvalues, .ref mheights, .ref mheats, .int mo_secondMany, .ref msecondKeys, .ref msecondValues, .ref msecondHeights, .ref msecondHeats, .int o_26, .int o_27, .int o_28, .int mo_bestsDone, .ref msaved, .ref mbestHeights, .int mo_seenMany, .ref msights, .ref mby, .int mo_seedNow, .int mo_keptRow, .int mo_keptMany, .int mo_keptSecond, .int mo_keptAsked, .int mo_keptLooks, .int mo_keptChanges, .int mo_keptSeen, .ref mkeptKeys, .ref mkeptValues, .ref mkeptHeights, .ref mkeptHeats, .ref mkeptKeys2, .ref mkeptValues2, .ref mkeptHeights2, .ref mkeptHeats2, .ref mkeptSights, .long mo_hash])), (mvalues, .inl (cy, 8, .inl mvalues_a))]) (wr := [(mkeys, .inl (cy, 8, .inl mkeys_a)), (mheights, .inl (cy, 8, .inl mheights_a))]) (n := 1) ⟨hx, hb, hml, hown, htb⟩ (c_X12_tellFound l D cy mo mpage mkeys mvalues mheights mheats msecondKeys msecondValues msecondHeights msecondHeats msaved mbestHeights msights mby mkeptKeys mkeptValues mkeptHeights mkeptHeats mkeptKeys2 mkeptValues2 mkeptHeights2 mkeptHeats2 mkeptSights mo_pageMany mo_law mo_many mo_asked mo_looksAll mo_changes mo_rowsRead mo_secondMany o_26 o_27 o_28 mo_bestsDone mo_seenMany mo_seedNow mo_keptRow mo_keptMany mo_keptSecond mo_keptAsked mo_keptLooks mo_keptChanges mo_keptSeen mo_hash mvalues_a d (show 0 ≤ mo_pageMany.toInt ∧ mo_pageMany.toInt ≤ 44 from by omega) (show 0 ≤ mo_many.toInt ∧ mo_many.toInt ≤ 8 from by omega) (show 0 ≤ mo_secondMany.toInt ∧ mo_secondMany.toInt ≤ 8 from by omega) (show (-1) ≤ o_26.toInt ∧ o_26.toInt ≤ 7 from by omega) (show 0 ≤ mo_seenMany.toInt ∧ mo_seenMany.toInt ≤ 6 from by omega) (show 0 ≤ mo_keptMany.toInt ∧ mo_keptMany.toInt ≤ 8 from by omega) (show 0 ≤ mo_keptSecond.toInt ∧ mo_keptSecond.toInt ≤ 8 from by omega) (show 0 ≤ mo_keptSeen.toInt ∧ mo_keptSeen.toInt ≤ 6 from by omega)) tw_989 tw_986 tw_988 tw_34 tw_71 rfl rfl (by decide +kernel) ⟨Nat.le_of_ble_eq_true rfl, Nat.le_of_ble_eq_true rfl⟩ hK hP hD hS hA [1, 0] [2, 3] rfl rfl rfl rfl (by decide) 0 (ci := 12) rfl rfl rfl hl.1 rfl (Nat.le_of_ble_eq_true rfl) dX12_finger_79 ⟨Nat.le_of_ble_eq_true rfl, Nat.le_of_ble_eq_true rfl⟩ (fun r_30 u_31 H locs hw_32 hP hD hS => ?_)
          refine W.widen (k := 0) (n := 0) (by decide) (by decide) ?_
          have hw_32 : r_30 = (fn_X12_tellFound o_26 o_27 o_28 mvalues_a d) := hw_32
          subst hw_32
          have hP : va_P D classes [(mkeys, .inl (cy, 8, .inl mkeys_a)), (mheights, .inl (cy, 8, .inl mheights_a)), (mo, .inr (12, [.ref mpage, .int mo_pageMany, .int mo_law, .int mo_many, .int mo_asked, .int mo_looksAll, .int mo_changes, .int mo_rowsRead, .ref mkeys, .ref mvalues, .ref mheights, .ref mheats, .int mo_secondMany, .ref msecondKeys, .ref msecondValues, .ref msecondHeights, .ref msecondHeats, .int o_26, .int o_27, .int o_28, .int mo_bestsDone, .ref msaved, .ref mbestHeights, .int mo_seenMany, .ref msights, .ref mby, .int mo_seedNow, .int mo_keptRow, .int mo_keptMany, .int mo_keptSecond, .int mo_keptAsked, .int mo_keptLooks, .int mo_keptChanges, .int mo_keptSeen, .ref mkeptKeys, .ref mkeptValues, .ref mkeptHeights, .ref mkeptHeats, .ref mkeptKeys2, .ref mkeptValues2, .ref mkeptHeights2, .ref mkeptHeats2, .ref mkeptSights, .long mo_hash])), (mvalues, .inl (cy, 8, .inl mvalues_a))] H := hP
          have hD : va_D A [(mkeys, .inl (cy, 8, .inl mkeys_a)), (mheights, .inl (cy, 8, .inl mheights_a)), (mo, .inr (12, [.ref mpage, .int mo_pageMany, .int mo_law, .int mo_many, .int mo_asked, .int mo_looksAll, .int mo_changes, .int mo_rowsRead, .ref mkeys, .ref mvalues, .ref mheights, .ref mheats, .int mo_secondMany, .ref msecondKeys, .ref msecondValues, .ref msecondHeights, .ref msecondHeats, .int o_26, .int o_27, .int o_28, .int mo_bestsDone, .ref msaved, .ref mbestHeights, .int mo_seenMany, .ref msights, .ref mby, .int mo_seedNow, .int mo_keptRow, .int mo_keptMany, .int mo_keptSecond, .int mo_keptAsked, .int mo_keptLooks, .int mo_keptChanges, .int mo_keptSeen, .ref mkeptKeys, .ref mkeptValues, .ref mkeptHeights, .ref mkeptHeats, .ref mkeptKeys2, .ref mkeptValues2, .ref mkeptHeights2, .ref mkeptHeats2, .ref mkeptSights, .long mo_hash])), (mvalues, .inl (cy, 8, .inl mvalues_a))] := hD
          refine W.widen (k := 0) (n := 0) (by decide) (by decide) ?_
          exact hret (fn_X12_tellFound o_26 o_27 o_28 mvalues_a d) (o_26, o_27, o_28) _ _ _ 82 (wk_sub9 (is := [2, 0, 3, 1]) hP rfl) (hD.sub [2, 0, 3, 1] rfl rfl) hS dX12_finger_82 ⟨hF.symm, (show ((-1) ≤ o_26.toInt ∧ o_26.toInt ≤ 7) from by omega)⟩
        · have k_22 : b.toInt = (mkeys_a a.toNatClampNeg).toInt := wk_eq c_22
          rw [if_pos c_22] at hF
          refine lv_iload_n hx hb dX12_finger_52 rfl (lv_at hl 3 rfl) ?_
          refine lv_if_ne (tgt := 60) hx hb dX12_finger_53 (by decide) (fun c_33 => ?_) (fun c_33 => ?_)
          · have k_33 : ¬ d.toInt = 0 := wk_neq c_33
            rw [if_neg c_33] at hF
            refine lv_iconst (v := 0) hx hb dX12_finger_60 (by decide) ?_
            refine W.widen (k := 0) (n := 0) (by decide) (by decide) ?_
            exact hret 0 (mo_foundAt, mo_foundLooks, mo_foundLane) _ _ _ 61 (wk_sub9 (is := [3, 0, 1, 2]) hP rfl) (hD.sub [3, 0, 1, 2] rfl rfl) hS dX12_finger_61 ⟨hF.symm, (show ((-1) ≤ mo_foundAt.toInt ∧ mo_foundAt.toInt ≤ 7) from by omega)⟩
          · have k_33 : d.toInt = 0 := wk_eq c_33
            rw [if_pos c_33] at hF
            refine lv_iload_n hx hb dX12_finger_56 rfl (lv_at hl 1 rfl) ?_
            refine lv_goto (tgt := 61) hx hb dX12_finger_57 (by decide) ?_
            refine W.widen (k := 0) (n := 0) (by decide) (by decide) ?_
            exact hret a (mo_foundAt, mo_foundLooks, mo_foundLane) _ _ _ 61 (wk_sub9 (is := [3, 0, 1, 2]) hP rfl) (hD.sub [3, 0, 1, 2] rfl rfl) hS dX12_finger_61 ⟨hF.symm, (show ((-1) ≤ mo_foundAt.toInt ∧ mo_foundAt.toInt ≤ 7) from by omega)⟩
      · have k_21 : (wk_in d.toInt64 0 1).toInt = 0 := wk_eq c_21
        rw [if_pos c_21] at hF
        refine lv_bipush (v := (-102)) hx hb dX12_finger_39 (by decide) ?_
        refine W.widen (k := 0) (n := 0) (by decide) (by decide) ?_
        exact hret (-102) (mo_foundAt, mo_foundLooks, mo_foundLane) _ _ _ 41 (wk_sub9 (is := [3, 0, 1, 2]) hP rfl) (hD.sub [3, 0, 1, 2] rfl rfl) hS dX12_finger_41 ⟨hF.symm, (show ((-1) ≤ mo_foundAt.toInt ∧ mo_foundAt.toInt ≤ 7) from by omega)⟩
  · have k_7 : (fn_X12_isNumber mo_many a).toInt = 0 := wk_eq c_7
    rw [if_pos c_7] at hF
    refine lv_bipush (v := (-101)) hx hb dX12_finger_8 (by decide) ?_
    refine W.widen (k := 0) (n := 0) (by decide) (by decide) ?_
    exact hret (-101) (mo_foundAt, mo_foundLooks, mo_foundLane) _ _ _ 10 (wk_sub9 (is := [3, 0, 1, 2]) hP rfl) (hD.sub [3, 0, 1, 2] rfl rfl) hS dX12_finger_10 ⟨hF.symm, (show ((-1) ≤ mo_foundAt.toInt ∧ mo_foundAt.toInt ≤ 7) from by omega)⟩
def fn_X12_ask (mo_many : Int32) (mo_asked : Int32) (mo_looksAll : Int32) (mo_foundAt : Int32) (mo_foundLooks : Int32) (mo_foundLane : Int32) (mkeys_a : Nat → Int32) (mvalues_a : Nat → Int32) (mheights_a : Nat → Int32) (mheats_a : Nat → Int32) (a : Int32) : Int32 × Int32 × Int32 × Int32 × Int32 × Int32 × (Nat → Int32) := (if (fn_X12_isKey a) = 0 then ((-102), mo_asked, mo_looksAll, mo_foundAt, mo_foundLooks, mo_foundLane, mheats_a) else (if (fn_X12_lacks mo_many) = 0 then (pm2 (fn_X12_lookFor mo_many mo_foundAt mo_foundLooks mo_foundLane mkeys_a mheights_a a) (fun o_19 t_ => (pm2 (t_) (fun o_20 o_21 => (if o_19 = (-1) then (if o_19 = (-1) then ((fn_X12_tellFound o_19 o_20 o_21 mvalues_a 3), (mo_asked + 1), (mo_looksAll + o_20), o_19, o_20, o_21, mheats_a) else default) else (if (mheats_a o_19.toNatClampNeg) = 99 then ((-104), mo_asked, mo_looksAll, o_19, o_20, o_21, mheats_a) else (if o_19 = (-1) then default else ((fn_X12_tellFound o_19 o_20 o_21 mvalues_a 3), (mo_asked + 1), (mo_looksAll + o_20), o_19, o_20, o_21, (upd mheats_a o_19.toNatClampNeg ((mheats_a o_19.toNatClampNeg) + 1)))))))))) else ((-103), mo_asked, mo_looksAll, mo_foundAt, mo_foundLooks, mo_foundLane, mheats_a)))
theorem dX12_ask_0 : decode cX12_ask 0 = .ok (.iload_n 1, 1) := by decide +kernel
theorem dX12_ask_1 : decode cX12_ask 1 = .ok (.invokestatic 180, 3) := by decide +kernel
theorem dX12_ask_4 : decode cX12_ask 4 = .ok (.ifCond .ne 6, 3) := by decide +kernel
theorem dX12_ask_7 : decode cX12_ask 7 = .ok (.bipush (-102), 2) := by decide +kernel
theorem dX12_ask_9 : decode cX12_ask 9 = .ok (.ireturn, 1) := by decide +kernel
theorem dX12_ask_10 : decode cX12_ask 10 = .ok (.aload_n 0, 1) := by decide +kernel
theorem dX12_ask_11 : decode cX12_ask 11 = .ok (.invokevirtual 185, 3) := by decide +kernel
theorem dX12_ask_14 : decode cX12_ask 14 = .ok (.ifCond .eq 6, 3) := by decide +kernel
theorem dX12_ask_17 : decode cX12_ask 17 = .ok (.bipush (-103), 2) := by decide +kernel
theorem dX12_ask_19 : decode cX12_ask 19 = .ok (.ireturn, 1) := by decide +kernel
theorem dX12_ask_20 : decode cX12_ask 20 = .ok (.aload_n 0, 1) := by decide +kernel
theorem dX12_ask_21 : decode cX12_ask 21 = .ok (.iload_n 1, 1) := by decide +kernel
theorem dX12_ask_22 : decode cX12_ask 22 = .ok (.invokevirtual 174, 3) := by decide +kernel
theorem dX12_ask_25 : decode cX12_ask 25 = .ok (.aload_n 0, 1) := by decide +kernel
theorem dX12_ask_26 : decode cX12_ask 26 = .ok (.getfield 158, 3) := by decide +kernel
theorem dX12_ask_29 : decode cX12_ask 29 = .ok (.iconst (-1), 1) := by decide +kernel
theorem dX12_ask_30 : decode cX12_ask 30 = .ok (.if_icmp .eq 20, 3) := by decide +kernel
theorem dX12_ask_33 : decode cX12_ask 33 = .ok (.aload_n 0, 1) := by decide +kernel
theorem dX12_ask_34 : decode cX12_ask 34 = .ok (.getfield 22, 3) := by decide +kernel
theorem dX12_ask_37 : decode cX12_ask 37 = .ok (.aload_n 0, 1) := by decide +kernel
theorem dX12_ask_38 : decode cX12_ask 38 = .ok (.getfield 158, 3) := by decide +kernel
theorem dX12_ask_41 : decode cX12_ask 41 = .ok (.iaload, 1) := by decide +kernel
theorem dX12_ask_42 : decode cX12_ask 42 = .ok (.bipush 99, 2) := by decide +kernel
theorem dX12_ask_44 : decode cX12_ask 44 = .ok (.if_icmp .ne 6, 3) := by decide +kernel
theorem dX12_ask_47 : decode cX12_ask 47 = .ok (.bipush (-104), 2) := by decide +kernel
theorem dX12_ask_49 : decode cX12_ask 49 = .ok (.ireturn, 1) := by decide +kernel
theorem dX12_ask_50 : decode cX12_ask 50 = .ok (.aload_n 0, 1) := by decide +kernel
theorem dX12_ask_51 : decode cX12_ask 51 = .ok (.dup, 1) := by decide +kernel
theorem dX12_ask_52 : decode cX12_ask 52 = .ok (.getfield 130, 3) := by decide +kernel
theorem dX12_ask_55 : decode cX12_ask 55 = .ok (.iconst 1, 1) := by decide +kernel
theorem dX12_ask_56 : decode cX12_ask 56 = .ok (.iadd, 1) := by decide +kernel
theorem dX12_ask_57 : decode cX12_ask 57 = .ok (.putfield 130, 3) := by decide +kernel
theorem dX12_ask_60 : decode cX12_ask 60 = .ok (.aload_n 0, 1) := by decide +kernel
theorem dX12_ask_61 : decode cX12_ask 61 = .ok (.dup, 1) := by decide +kernel
theorem dX12_ask_62 : decode cX12_ask 62 = .ok (.getfield 133, 3) := by decide +kernel
theorem dX12_ask_65 : decode cX12_ask 65 = .ok (.aload_n 0, 1) := by decide +kernel
theorem dX12_ask_66 : decode cX12_ask 66 = .ok (.getfield 161, 3) := by decide +kernel
theorem dX12_ask_69 : decode cX12_ask 69 = .ok (.iadd, 1) := by decide +kernel
theorem dX12_ask_70 : decode cX12_ask 70 = .ok (.putfield 133, 3) := by decide +kernel
theorem dX12_ask_73 : decode cX12_ask 73 = .ok (.aload_n 0, 1) := by decide +kernel
theorem dX12_ask_74 : decode cX12_ask 74 = .ok (.getfield 158, 3) := by decide +kernel
theorem dX12_ask_77 : decode cX12_ask 77 = .ok (.iconst (-1), 1) := by decide +kernel
theorem dX12_ask_78 : decode cX12_ask 78 = .ok (.if_icmp .eq 16, 3) := by decide +kernel
theorem dX12_ask_81 : decode cX12_ask 81 = .ok (.aload_n 0, 1) := by decide +kernel
theorem dX12_ask_82 : decode cX12_ask 82 = .ok (.getfield 22, 3) := by decide +kernel
theorem dX12_ask_85 : decode cX12_ask 85 = .ok (.aload_n 0, 1) := by decide +kernel
theorem dX12_ask_86 : decode cX12_ask 86 = .ok (.getfield 158, 3) := by decide +kernel
theorem dX12_ask_89 : decode cX12_ask 89 = .ok (.dup2, 1) := by decide +kernel
theorem dX12_ask_90 : decode cX12_ask 90 = .ok (.iaload, 1) := by decide +kernel
theorem dX12_ask_91 : decode cX12_ask 91 = .ok (.iconst 1, 1) := by decide +kernel
theorem dX12_ask_92 : decode cX12_ask 92 = .ok (.iadd, 1) := by decide +kernel
theorem dX12_ask_93 : decode cX12_ask 93 = .ok (.iastore, 1) := by decide +kernel
theorem dX12_ask_94 : decode cX12_ask 94 = .ok (.aload_n 0, 1) := by decide +kernel
theorem dX12_ask_95 : decode cX12_ask 95 = .ok (.iconst 3, 1) := by decide +kernel
theorem dX12_ask_96 : decode cX12_ask 96 = .ok (.invokevirtual 189, 3) := by decide +kernel
theorem dX12_ask_99 : decode cX12_ask 99 = .ok (.ireturn, 1) := by decide +kernel
set_option maxHeartbeats 4000000 in
set_option maxRecDepth 100000 in
theorem c_X12_ask (l : Launch) (D : va_G) (cy : ClassId) (mo mpage mkeys mvalues mheights mheats msecondKeys msecondValues msecondHeights msecondHeats msaved mbestHeights msights mby mkeptKeys mkeptValues mkeptHeights mkeptHeats mkeptKeys2 mkeptValues2 mkeptHeights2 mkeptHeats2 mkeptSights : Nat) (mo_pageMany : Int32) (mo_law : Int32) (mo_many : Int32) (mo_asked : Int32) (mo_looksAll : Int32) (mo_changes : Int32) (mo_rowsRead : Int32) (mo_secondMany : Int32) (mo_foundAt : Int32) (mo_foundLooks : Int32) (mo_foundLane : Int32) (mo_bestsDone : Int32) (mo_seenMany : Int32) (mo_seedNow : Int32) (mo_keptRow : Int32) (mo_keptMany : Int32) (mo_keptSecond : Int32) (mo_keptAsked : Int32) (mo_keptLooks : Int32) (mo_keptChanges : Int32) (mo_keptSeen : Int32) (mo_hash : Int64) (mkeys_a : Nat → Int32) (mvalues_a : Nat → Int32) (mheights_a : Nat → Int32) (mheats_a : Nat → Int32) (a : Int32) (g_0 : 0 ≤ mo_pageMany.toInt ∧ mo_pageMany.toInt ≤ 44) (g_1 : 0 ≤ mo_many.toInt ∧ mo_many.toInt ≤ 8) (g_2 : 0 ≤ mo_secondMany.toInt ∧ mo_secondMany.toInt ≤ 8) (g_3 : (-1) ≤ mo_foundAt.toInt ∧ mo_foundAt.toInt ≤ 7) (g_4 : 0 ≤ mo_seenMany.toInt ∧ mo_seenMany.toInt ≤ 6) (g_5 : 0 ≤ mo_keptMany.toInt ∧ mo_keptMany.toInt ≤ 8) (g_6 : 0 ≤ mo_keptSecond.toInt ∧ mo_keptSecond.toInt ≤ 8) (g_7 : 0 ≤ mo_keptSeen.toInt ∧ mo_keptSeen.toInt ≤ 6) : wk_Ci l yX12_ask cX12_ask 2 (some .int) { frames := 3, cells := 0, slots := 0, locals := 71 } D cy [.ref mo, .int a] [(mo, .inr (12, [.ref mpage, .int mo_pageMany, .int mo_law, .int mo_many, .int mo_asked, .int mo_looksAll, .int mo_changes, .int mo_rowsRead, .ref mkeys, .ref mvalues, .ref mheights, .ref mheats, .int mo_secondMany, .ref msecondKeys, .ref msecondValues, .ref msecondHeights, .ref msecondHeats, .int mo_foundAt, .int mo_foundLooks, .int mo_foundLane, .int mo_bestsDone, .ref msaved, .ref mbestHeights, .int mo_seenMany, .ref msights, .ref mby, .int mo_seedNow, .int mo_keptRow, .int mo_keptMany, .int mo_keptSecond, .int mo_keptAsked, .int mo_keptLooks, .int mo_keptChanges, .int mo_keptSeen, .ref mkeptKeys, .ref mkeptValues, .ref mkeptHeights, .ref mkeptHeats, .ref mkeptKeys2, .ref mkeptValues2, .ref mkeptHeights2, .ref mkeptHeats2, .ref mkeptSights, .long mo_hash])), (mkeys, .inl (cy, 8, .inl mkeys_a)), (mvalues, .inl (cy, 8, .inl mvalues_a)), (mheights, .inl (cy, 8, .inl mheights_a)), (mheats, .inl (cy, 8, .inl mheats_a))] 0 0 (fun (r : Int32) (u : Int32 × Int32 × Int32 × Int32 × Int32 × (Nat → Int32)) => (r, u) = (fn_X12_ask mo_many mo_asked mo_looksAll mo_foundAt mo_foundLooks mo_foundLane mkeys_a mvalues_a mheights_a mheats_a a) ∧ ((-1) ≤ u.2.2.1.toInt ∧ u.2.2.1.toInt ≤ 7)) (fun u => [(mo, .inr (12, [.ref mpage, .int mo_pageMany, .int mo_law, .int mo_many, .int u.1, .int u.2.1, .int mo_changes, .int mo_rowsRead, .ref mkeys, .ref mvalues, .ref mheights, .ref mheats, .int mo_secondMany, .ref msecondKeys, .ref msecondValues, .ref msecondHeights, .ref msecondHeats, .int u.2.2.1, .int u.2.2.2.1, .int u.2.2.2.2.1, .int mo_bestsDone, .ref msaved, .ref mbestHeights, .int mo_seenMany, .ref msights, .ref mby, .int mo_seedNow, .int mo_keptRow, .int mo_keptMany, .int mo_keptSecond, .int mo_keptAsked, .int mo_keptLooks, .int mo_keptChanges, .int mo_keptSeen, .ref mkeptKeys, .ref mkeptValues, .ref mkeptHeights, .ref mkeptHeats, .ref mkeptKeys2, .ref mkeptValues2, .ref mkeptHeights2, .ref mkeptHeats2, .ref mkeptSights, .long mo_hash])), (mkeys, .inl (cy, 8, .inl mkeys_a)), (mvalues, .inl (cy, 8, .inl mvalues_a)), (mheights, .inl (cy, 8, .inl mheights_a)), (mheats, .inl (cy, 8, .inl u.2.2.2.2.2))]) := by
  refine wk_mk2Ci (by decide) (Nat.le_of_ble_eq_true rfl) ?_
  intro p e s m args below meth c A ls Q B hA hK hP hD hS hl hret
  obtain ⟨hx, hb, hr, hlocks, hml, hown, htb, hin⟩ := B
  have hl : lv_has ls 2 [(0, .ref mo), (1, .int a)] := hl
  have hF : (fn_X12_ask mo_many mo_asked mo_looksAll mo_foundAt mo_foundLooks mo_foundLane mkeys_a mvalues_a mheights_a mheats_a a) = (fn_X12_ask mo_many mo_asked mo_looksAll mo_foundAt mo_foundLooks mo_foundLane mkeys_a mvalues_a mheights_a mheats_a a) := rfl
  conv at hF => rhs; unfold fn_X12_ask
  refine lv_iload_n hx hb dX12_ask_0 rfl (lv_at hl 1 rfl) ?_
  refine wk_iS (As := [.int a]) (rest := []) (wc := []) (wr := [(mo, .inr (12, [.ref mpage, .int mo_pageMany, .int mo_law, .int mo_many, .int mo_asked, .int mo_looksAll, .int mo_changes, .int mo_rowsRead, .ref mkeys, .ref mvalues, .ref mheights, .ref mheats, .int mo_secondMany, .ref msecondKeys, .ref msecondValues, .ref msecondHeights, .ref msecondHeats, .int mo_foundAt, .int mo_foundLooks, .int mo_foundLane, .int mo_bestsDone, .ref msaved, .ref mbestHeights, .int mo_seenMany, .ref msights, .ref mby, .int mo_seedNow, .int mo_keptRow, .int mo_keptMany, .int mo_keptSecond, .int mo_keptAsked, .int mo_keptLooks, .int mo_keptChanges, .int mo_keptSeen, .ref mkeptKeys, .ref mkeptValues, .ref mkeptHeights, .ref mkeptHeats, .ref mkeptKeys2, .ref mkeptValues2, .ref mkeptHeights2, .ref mkeptHeats2, .ref mkeptSights, .long mo_hash])), (mkeys, .inl (cy, 8, .inl mkeys_a)), (mvalues, .inl (cy, 8, .inl mvalues_a)), (mheights, .inl (cy, 8, .inl mheights_a)), (mheats, .inl (cy, 8, .inl mheats_a))]) (n := 1) ⟨hx, hb, hml, hown, htb⟩ (c_X12_isKey l D cy   a ) tw_963 tw_961 tw_962 tw_71 rfl rfl (by decide +kernel) ⟨Nat.le_of_ble_eq_true rfl, Nat.le_of_ble_eq_true rfl⟩ hK hP hD hS hA [] [0, 1, 2, 3, 4] rfl rfl rfl rfl (by decide) rfl hl.1 rfl (Nat.le_of_ble_eq_true rfl) dX12_ask_1 ⟨Nat.le_of_ble_eq_true rfl, Nat.le_of_ble_eq_true rfl⟩ (fun r_1 u_2 H locs hw_3 hP hD hS => ?_)
  refine W.widen (k := 0) (n := 0) (by decide) (by decide) ?_
  obtain ⟨hw_3, k_4, k_5⟩ := hw_3
  have hw_3 : r_1 = (fn_X12_isKey a) := hw_3
  subst hw_3
  have k_4 : ((fn_X12_isKey a) = 0 ∨ (fn_X12_isKey a) = 1) := k_4
  have k_5 : ((fn_X12_isKey a).toInt = 0 ∨ (0 ≤ a.toInt ∧ a.toInt ≤ 99)) := k_5
  have k_6 : 0 ≤ (fn_X12_isKey a).toInt ∧ (fn_X12_isKey a).toInt ≤ 1 := wk_b01 (by assumption)
  have hP : va_P D classes [(mo, .inr (12, [.ref mpage, .int mo_pageMany, .int mo_law, .int mo_many, .int mo_asked, .int mo_looksAll, .int mo_changes, .int mo_rowsRead, .ref mkeys, .ref mvalues, .ref mheights, .ref mheats, .int mo_secondMany, .ref msecondKeys, .ref msecondValues, .ref msecondHeights, .ref msecondHeats, .int mo_foundAt, .int mo_foundLooks, .int mo_foundLane, .int mo_bestsDone, .ref msaved, .ref mbestHeights, .int mo_seenMany, .ref msights, .ref mby, .int mo_seedNow, .int mo_keptRow, .int mo_keptMany, .int mo_keptSecond, .int mo_keptAsked, .int mo_keptLooks, .int mo_keptChanges, .int mo_keptSeen, .ref mkeptKeys, .ref mkeptValues, .ref mkeptHeights, .ref mkeptHeats, .ref mkeptKeys2, .ref mkeptValues2, .ref mkeptHeights2, .ref mkeptHeats2, .ref mkeptSights, .long mo_hash])), (mkeys, .inl (cy, 8, .inl mkeys_a)), (mvalues, .inl (cy, 8, .inl mvalues_a)), (mheights, .inl (cy, 8, .inl mheights_a)), (mheats, .inl (cy, 8, .inl mheats_a))] H := hP
  have hD : va_D A [(mo, .inr (12, [.ref mpage, .int mo_pageMany, .int mo_law, .int mo_many, .int mo_asked, .int mo_looksAll, .int mo_changes, .int mo_rowsRead, .ref mkeys, .ref mvalues, .ref mheights, .ref mheats, .int mo_secondMany, .ref msecondKeys, .ref msecondValues, .ref msecondHeights, .ref msecondHeats, .int mo_foundAt, .int mo_foundLooks, .int mo_foundLane, .int mo_bestsDone, .ref msaved, .ref mbestHeights, .int mo_seenMany, .ref msights, .ref mby, .int mo_seedNow, .int mo_keptRow, .int mo_keptMany, .int mo_keptSecond, .int mo_keptAsked, .int mo_keptLooks, .int mo_keptChanges, .int mo_keptSeen, .ref mkeptKeys, .ref mkeptValues, .ref mkeptHeights, .ref mkeptHeats, .ref mkeptKeys2, .ref mkeptValues2, .ref mkeptHeights2, .ref mkeptHeats2, .ref mkeptSights, .long mo_hash])), (mkeys, .inl (cy, 8, .inl mkeys_a)), (mvalues, .inl (cy, 8, .inl mvalues_a)), (mheights, .inl (cy, 8, .inl mheights_a)), (mheats, .inl (cy, 8, .inl mheats_a))] := hD
  refine lv_if_ne (tgt := 10) hx hb dX12_ask_4 (by decide) (fun c_7 => ?_) (fun c_7 => ?_)
  · have k_7 : ¬ (fn_X12_isKey a).toInt = 0 := wk_neq c_7
    rw [if_neg c_7] at hF
    refine lv_aload_n hx hb dX12_ask_10 rfl (lv_at hl 0 rfl) ?_
    refine wk_iV (As := []) (rest := []) (wc := [(mo, .inr (12, [.ref mpage, .int mo_pageMany, .int mo_law, .int mo_many, .int mo_asked, .int mo_looksAll, .int mo_changes, .int mo_rowsRead, .ref mkeys, .ref mvalues, .ref mheights, .ref mheats, .int mo_secondMany, .ref msecondKeys, .ref msecondValues, .ref msecondHeights, .ref msecondHeats, .int mo_foundAt, .int mo_foundLooks, .int mo_foundLane, .int mo_bestsDone, .ref msaved, .ref mbestHeights, .int mo_seenMany, .ref msights, .ref mby, .int mo_seedNow, .int mo_keptRow, .int mo_keptMany, .int mo_keptSecond, .int mo_keptAsked, .int mo_keptLooks, .int mo_keptChanges, .int mo_keptSeen, .ref mkeptKeys, .ref mkeptValues, .ref mkeptHeights, .ref mkeptHeats, .ref mkeptKeys2, .ref mkeptValues2, .ref mkeptHeights2, .ref mkeptHeats2, .ref mkeptSights, .long mo_hash]))]) (wr := [(mkeys, .inl (cy, 8, .inl mkeys_a)), (mvalues, .inl (cy, 8, .inl mvalues_a)), (mheights, .inl (cy, 8, .inl mheights_a)), (mheats, .inl (cy, 8, .inl mheats_a))]) (n := 0) ⟨hx, hb, hml, hown, htb⟩ (c_X12_lacks l D cy mo mpage mkeys mvalues mheights mheats msecondKeys msecondValues msecondHeights msecondHeats msaved mbestHeights msights mby mkeptKeys mkeptValues mkeptHeights mkeptHeats mkeptKeys2 mkeptValues2 mkeptHeights2 mkeptHeats2 mkeptSights mo_pageMany mo_law mo_many mo_asked mo_looksAll mo_changes mo_rowsRead mo_secondMany mo_foundAt mo_foundLooks mo_foundLane mo_bestsDone mo_seenMany mo_seedNow mo_keptRow mo_keptMany mo_keptSecond mo_keptAsked mo_keptLooks mo_keptChanges mo_keptSeen mo_hash  (show 0 ≤ mo_pageMany.toInt ∧ mo_pageMany.toInt ≤ 44 from by omega) (show 0 ≤ mo_many.toInt ∧ mo_many.toInt ≤ 8 from by omega) (show 0 ≤ mo_secondMany.toInt ∧ mo_secondMany.toInt ≤ 8 from by omega) (show (-1) ≤ mo_foundAt.toInt ∧ mo_foundAt.toInt ≤ 7 from by omega) (show 0 ≤ mo_seenMany.toInt ∧ mo_seenMany.toInt ≤ 6 from by omega) (show 0 ≤ mo_keptMany.toInt ∧ mo_keptMany.toInt ≤ 8 from by omega) (show 0 ≤ mo_keptSecond.toInt ∧ mo_keptSecond.toInt ≤ 8 from by omega) (show 0 ≤ mo_keptSeen.toInt ∧ mo_keptSeen.toInt ≤ 6 from by omega)) tw_969 tw_966 tw_968 tw_29 tw_71 rfl rfl (by decide +kernel) ⟨Nat.le_of_ble_eq_true rfl, Nat.le_of_ble_eq_true rfl⟩ hK hP hD hS hA [0] [1, 2, 3, 4] rfl rfl rfl rfl (by decide) 0 (ci := 12) rfl rfl rfl hl.1 rfl (Nat.le_of_ble_eq_true rfl) dX12_ask_11 ⟨Nat.le_of_ble_eq_true rfl, Nat.le_of_ble_eq_true rfl⟩ (fun r_8 u_9 H locs hw_10 hP hD hS => ?_)
    refine W.widen (k := 0) (n := 0) (by decide) (by decide) ?_
    obtain ⟨hw_10, k_11, k_12, k_13⟩ := hw_10
    have hw_10 : r_8 = (fn_X12_lacks mo_many) := hw_10
    subst hw_10
    have k_11 : ((fn_X12_lacks mo_many) = 0 ∨ (fn_X12_lacks mo_many) = 1) := k_11
    have k_12 : ((fn_X12_lacks mo_many).toInt = 0 ∨ mo_many.toInt = 0) := k_12
    have k_13 : ((fn_X12_lacks mo_many).toInt = 1 ∨ 1 ≤ mo_many.toInt) := k_13
    have k_14 : 0 ≤ (fn_X12_lacks mo_many).toInt ∧ (fn_X12_lacks mo_many).toInt ≤ 1 := wk_b01 (by assumption)
    have hP : va_P D classes [(mkeys, .inl (cy, 8, .inl mkeys_a)), (mvalues, .inl (cy, 8, .inl mvalues_a)), (mheights, .inl (cy, 8, .inl mheights_a)), (mheats, .inl (cy, 8, .inl mheats_a)), (mo, .inr (12, [.ref mpage, .int mo_pageMany, .int mo_law, .int mo_many, .int mo_asked, .int mo_looksAll, .int mo_changes, .int mo_rowsRead, .ref mkeys, .ref mvalues, .ref mheights, .ref mheats, .int mo_secondMany, .ref msecondKeys, .ref msecondValues, .ref msecondHeights, .ref msecondHeats, .int mo_foundAt, .int mo_foundLooks, .int mo_foundLane, .int mo_bestsDone, .ref msaved, .ref mbestHeights, .int mo_seenMany, .ref msights, .ref mby, .int mo_seedNow, .int mo_keptRow, .int mo_keptMany, .int mo_keptSecond, .int mo_keptAsked, .int mo_keptLooks, .int mo_keptChanges, .int mo_keptSeen, .ref mkeptKeys, .ref mkeptValues, .ref mkeptHeights, .ref mkeptHeats, .ref mkeptKeys2, .ref mkeptValues2, .ref mkeptHeights2, .ref mkeptHeats2, .ref mkeptSights, .long mo_hash]))] H := hP
    have hD : va_D A [(mkeys, .inl (cy, 8, .inl mkeys_a)), (mvalues, .inl (cy, 8, .inl mvalues_a)), (mheights, .inl (cy, 8, .inl mheights_a)), (mheats, .inl (cy, 8, .inl mheats_a)), (mo, .inr (12, [.ref mpage, .int mo_pageMany, .int mo_law, .int mo_many, .int mo_asked, .int mo_looksAll, .int mo_changes, .int mo_rowsRead, .ref mkeys, .ref mvalues, .ref mheights, .ref mheats, .int mo_secondMany, .ref msecondKeys, .ref msecondValues, .ref msecondHeights, .ref msecondHeats, .int mo_foundAt, .int mo_foundLooks, .int mo_foundLane, .int mo_bestsDone, .ref msaved, .ref mbestHeights, .int mo_seenMany, .ref msights, .ref mby, .int mo_seedNow, .int mo_keptRow, .int mo_keptMany, .int mo_keptSecond, .int mo_keptAsked, .int mo_keptLooks, .int mo_keptChanges, .int mo_keptSeen, .ref mkeptKeys, .ref mkeptValues, .ref mkeptHeights, .ref mkeptHeats, .ref mkeptKeys2, .ref mkeptValues2, .ref mkeptHeights2, .ref mkeptHeats2, .ref mkeptSights, .long mo_hash]))] := hD
    refine lv_if_eq (tgt := 20) hx hb dX12_ask_14 (by decide) (fun c_15 => ?_) (fun c_15 => ?_)
    · have k_15 : (fn_X12_lacks mo_many).toInt = 0 := wk_eq c_15
      rw [if_pos c_15] at hF
      refine lv_aload_n hx hb dX12_ask_20 rfl (lv_at hl 0 rfl) ?_
      refine lv_iload_n hx hb dX12_ask_21 rfl (lv_at hl 1 rfl) ?_
      refine wk_vV (As := [.int a]) (rest := []) (wc := [(mo, .inr (12, [.ref mpage, .int mo_pageMany, .int mo_law, .int mo_many, .int mo_asked, .int mo_looksAll, .int mo_changes, .int mo_rowsRead, .ref mkeys, .ref mvalues, .ref mheights, .ref mheats, .int mo_secondMany, .ref msecondKeys, .ref msecondValues, .ref msecondHeights, .ref msecondHeats, .int mo_foundAt, .int mo_foundLooks, .int mo_foundLane, .int mo_bestsDone, .ref msaved, .ref mbestHeights, .int mo_seenMany, .ref msights, .ref mby, .int mo_seedNow, .int mo_keptRow, .int mo_keptMany, .int mo_keptSecond, .int mo_keptAsked, .int mo_keptLooks, .int mo_keptChanges, .int mo_keptSeen, .ref mkeptKeys, .ref mkeptValues, .ref mkeptHeights, .ref mkeptHeats, .ref mkeptKeys2, .ref mkeptValues2, .ref mkeptHeights2, .ref mkeptHeats2, .ref mkeptSights, .long mo_hash])), (mkeys, .inl (cy, 8, .inl mkeys_a)), (mheights, .inl (cy, 8, .inl mheights_a))]) (wr := [(mvalues, .inl (cy, 8, .inl mvalues_a)), (mheats, .inl (cy, 8, .inl mheats_a))]) (n := 1) ⟨hx, hb, hml, hown, htb⟩ (c_X12_lookFor l D cy mo mpage mkeys mvalues mheights mheats msecondKeys msecondValues msecondHeights msecondHeats msaved mbestHeights msights mby mkeptKeys mkeptValues mkeptHeights mkeptHeats mkeptKeys2 mkeptValues2 mkeptHeights2 mkeptHeats2 mkeptSights mo_pageMany mo_law mo_many mo_asked mo_looksAll mo_changes mo_rowsRead mo_secondMany mo_foundAt mo_foundLooks mo_foundLane mo_bestsDone mo_seenMany mo_seedNow mo_keptRow mo_keptMany mo_keptSecond mo_keptAsked mo_keptLooks mo_keptChanges mo_keptSeen mo_hash mkeys_a mheights_a a (show 0 ≤ mo_pageMany.toInt ∧ mo_pageMany.toInt ≤ 44 from by omega) (show 0 ≤ mo_many.toInt ∧ mo_many.toInt ≤ 8 from by omega) (show 0 ≤ mo_secondMany.toInt ∧ mo_secondMany.toInt ≤ 8 from by omega) (show (-1) ≤ mo_foundAt.toInt ∧ mo_foundAt.toInt ≤ 7 from by omega) (show 0 ≤ mo_seenMany.toInt ∧ mo_seenMany.toInt ≤ 6 from by omega) (show 0 ≤ mo_keptMany.toInt ∧ mo_keptMany.toInt ≤ 8 from by omega) (show 0 ≤ mo_keptSecond.toInt ∧ mo_keptSecond.toInt ≤ 8 from by omega) (show 0 ≤ mo_keptSeen.toInt ∧ mo_keptSeen.toInt ≤ 6 from by omega)) tw_973 tw_970 tw_972 tw_30 tw_71 rfl rfl (by decide +kernel) ⟨Nat.le_of_ble_eq_true rfl, Nat.le_of_ble_eq_true rfl⟩ hK hP hD hS hA [4, 0, 2] [1, 3] rfl rfl rfl rfl (by decide) 0 (ci := 12) rfl rfl rfl hl.1 rfl (Nat.le_of_ble_eq_true rfl) dX12_ask_22 ⟨Nat.le_of_ble_eq_true rfl, Nat.le_of_ble_eq_true rfl⟩ (fun u_17 H locs hw_18 hP hD hS => ?_)
      refine W.widen (k := 0) (n := 0) (by decide) (by decide) ?_
      obtain ⟨o_19, o_20, o_21⟩ := u_17
      obtain ⟨hw_18, k_22⟩ := hw_18
      have hw_18 : (o_19, o_20, o_21) = (fn_X12_lookFor mo_many mo_foundAt mo_foundLooks mo_foundLane mkeys_a mheights_a a) := hw_18
      have k_22 : ((-1) ≤ o_19.toInt ∧ o_19.toInt ≤ 7) := k_22
      rw [← hw_18] at hF
      rw [pm2_mk o_19 (o_20, o_21), pm2_mk o_20 o_21] at hF
      have hP : va_P D classes [(mvalues, .inl (cy, 8, .inl mvalues_a)), (mheats, .inl (cy, 8, .inl mheats_a)), (mo, .inr (12, [.ref mpage, .int mo_pageMany, .int mo_law, .int mo_many, .int mo_asked, .int mo_looksAll, .int mo_changes, .int mo_rowsRead, .ref mkeys, .ref mvalues, .ref mheights, .ref mheats, .int mo_secondMany, .ref msecondKeys, .ref msecondValues, .ref msecondHeights, .ref msecondHeats, .int o_19, .int o_20, .int o_21, .int mo_bestsDone, .ref msaved, .ref mbestHeights, .int mo_seenMany, .ref msights, .ref mby, .int mo_seedNow, .int mo_keptRow, .int mo_keptMany, .int mo_keptSecond, .int mo_keptAsked, .int mo_keptLooks, .int mo_keptChanges, .int mo_keptSeen, .ref mkeptKeys, .ref mkeptValues, .ref mkeptHeights, .ref mkeptHeats, .ref mkeptKeys2, .ref mkeptValues2, .ref mkeptHeights2, .ref mkeptHeats2, .ref mkeptSights, .long mo_hash])), (mkeys, .inl (cy, 8, .inl mkeys_a)), (mheights, .inl (cy, 8, .inl mheights_a))] H := hP
      have hD : va_D A [(mvalues, .inl (cy, 8, .inl mvalues_a)), (mheats, .inl (cy, 8, .inl mheats_a)), (mo, .inr (12, [.ref mpage, .int mo_pageMany, .int mo_law, .int mo_many, .int mo_asked, .int mo_looksAll, .int mo_changes, .int mo_rowsRead, .ref mkeys, .ref mvalues, .ref mheights, .ref mheats, .int mo_secondMany, .ref msecondKeys, .ref msecondValues, .ref msecondHeights, .ref msecondHeats, .int o_19, .int o_20, .int o_21, .int mo_bestsDone, .ref msaved, .ref mbestHeights, .int mo_seenMany, .ref msights, .ref mby, .int mo_seedNow, .int mo_keptRow, .int mo_keptMany, .int mo_keptSecond, .int mo_keptAsked, .int mo_keptLooks, .int mo_keptChanges, .int mo_keptSeen, .ref mkeptKeys, .ref mkeptValues, .ref mkeptHeights, .ref mkeptHeats, .ref mkeptKeys2, .ref mkeptValues2, .ref mkeptHeights2, .ref mkeptHeats2, .ref mkeptSights, .long mo_hash])), (mkeys, .inl (cy, 8, .inl mkeys_a)), (mheights, .inl (cy, 8, .inl mheights_a))] := hD
      refine lv_aload_n hx hb dX12_ask_25 rfl (lv_at hl 0 rfl) ?_
      refine va_get (D := D) (ci := 12) (v := .int o_19) (C := RX12) (T := TX12) (N := 44) hx hb htb inX12 hown hK hP 2 rfl rfl 17 (by decide) (htb _ tw_780) (fun _ h9 => h9) rfl dX12_ask_26 ?_
      refine lv_iconst (v := (-1)) hx hb dX12_ask_29 (by decide) ?_
      refine lv_icmp_eq (tgt := 50) hx hb dX12_ask_30 (by decide) (fun c_23 => ?_) (fun c_23 => ?_)
      · have k_23 : o_19.toInt = (-1) := wk_eq c_23
        rw [if_pos c_23] at hF
        refine lv_aload_n hx hb dX12_ask_50 rfl (lv_at hl 0 rfl) ?_
        refine lv_dup hx hb dX12_ask_51 rfl ?_
        refine va_get (D := D) (ci := 12) (v := .int mo_asked) (C := RX12) (T := TX12) (N := 44) hx hb htb inX12 hown hK hP 2 rfl rfl 4 (by decide) (htb _ tw_767) (fun _ h9 => h9) rfl dX12_ask_52 ?_
        refine lv_iconst (v := 1) hx hb dX12_ask_55 (by decide) ?_
        refine lv_iadd hx hb dX12_ask_56 ?_
        refine va_put (D := D) (ci := 12) (v := .int (mo_asked + 1)) (ty := .int) (C := RX12) (T := TX12) (N := 44) hx hb htb inX12 tyX12 tyX12_ok nmX12 hown hK hP hD hS 2 rfl rfl 4 (by decide) (htb _ tw_767) (fun _ h9 => h9) rfl (by decide +kernel) rfl rfl (Nat.le_of_ble_eq_true rfl) dX12_ask_57 (fun H locs hP hD hS => ?_)
        have hP : va_P D classes [(mvalues, .inl (cy, 8, .inl mvalues_a)), (mheats, .inl (cy, 8, .inl mheats_a)), (mo, .inr (12, [.ref mpage, .int mo_pageMany, .int mo_law, .int mo_many, .int (mo_asked + 1), .int mo_looksAll, .int mo_changes, .int mo_rowsRead, .ref mkeys, .ref mvalues, .ref mheights, .ref mheats, .int mo_secondMany, .ref msecondKeys, .ref msecondValues, .ref msecondHeights, .ref msecondHeats, .int o_19, .int o_20, .int o_21, .int mo_bestsDone, .ref msaved, .ref mbestHeights, .int mo_seenMany, .ref msights, .ref mby, .int mo_seedNow, .int mo_keptRow, .int mo_keptMany, .int mo_keptSecond, .int mo_keptAsked, .int mo_keptLooks, .int mo_keptChanges, .int mo_keptSeen, .ref mkeptKeys, .ref mkeptValues, .ref mkeptHeights, .ref mkeptHeats, .ref mkeptKeys2, .ref mkeptValues2, .ref mkeptHeights2, .ref mkeptHeats2, .ref mkeptSights, .long mo_hash])), (mkeys, .inl (cy, 8, .inl mkeys_a)), (mheights, .inl (cy, 8, .inl mheights_a))] H := hP
        have hD : va_D A [(mvalues, .inl (cy, 8, .inl mvalues_a)), (mheats, .inl (cy, 8, .inl mheats_a)), (mo, .inr (12, [.ref mpage, .int mo_pageMany, .int mo_law, .int mo_many, .int (mo_asked + 1), .int mo_looksAll, .int mo_changes, .int mo_rowsRead, .ref mkeys, .ref mvalues, .ref mheights, .ref mheats, .int mo_secondMany, .ref msecondKeys, .ref msecondValues, .ref msecondHeights, .ref msecondHeats, .int o_19, .int o_20, .int o_21, .int mo_bestsDone, .ref msaved, .ref mbestHeights, .int mo_seenMany, .ref msights, .ref mby, .int mo_seedNow, .int mo_keptRow, .int mo_keptMany, .int mo_keptSecond, .int mo_keptAsked, .int mo_keptLooks, .int mo_keptChanges, .int mo_keptSeen, .ref mkeptKeys, .ref mkeptValues, .ref mkeptHeights, .ref mkeptHeats, .ref mkeptKeys2, .ref mkeptValues2, .ref mkeptHeights2, .ref mkeptHeats2, .ref mkeptSights, .long mo_hash])), (mkeys, .inl (cy, 8, .inl mkeys_a)), (mheights, .inl (cy, 8, .inl mheights_a))] := hD
        refine lv_aload_n hx hb dX12_ask_60 rfl (lv_at hl 0 rfl) ?_
        refine lv_dup hx hb dX12_ask_61 rfl ?_
        refine va_get (D := D) (ci := 12) (v := .int mo_looksAll) (C := RX12) (T := TX12) (N := 44) hx hb htb inX12 hown hK hP 2 rfl rfl 5 (by decide) (htb _ tw_768) (fun _ h9 => h9) rfl dX12_ask_62 ?_
        refine lv_aload_n hx hb dX12_ask_65 rfl (lv_at hl 0 rfl) ?_
        refine va_get (D := D) (ci := 12) (v := .int o_20) (C := RX12) (T := TX12) (N := 44) hx hb htb inX12 hown hK hP 2 rfl rfl 18 (by decide) (htb _ tw_781) (fun _ h9 => h9) rfl dX12_ask_66 ?_
        refine lv_iadd hx hb dX12_ask_69 ?_
        refine va_put (D := D) (ci := 12) (v := .int (mo_looksAll + o_20)) (ty := .int) (C := RX12) (T := TX12) (N := 44) hx hb htb inX12 tyX12 tyX12_ok nmX12 hown hK hP hD hS 2 rfl rfl 5 (by decide) (htb _ tw_768) (fun _ h9 => h9) rfl (by decide +kernel) rfl rfl (Nat.le_of_ble_eq_true rfl) dX12_ask_70 (fun H locs hP hD hS => ?_)
        have hP : va_P D classes [(mvalues, .inl (cy, 8, .inl mvalues_a)), (mheats, .inl (cy, 8, .inl mheats_a)), (mo, .inr (12, [.ref mpage, .int mo_pageMany, .int mo_law, .int mo_many, .int (mo_asked + 1), .int (mo_looksAll + o_20), .int mo_changes, .int mo_rowsRead, .ref mkeys, .ref mvalues, .ref mheights, .ref mheats, .int mo_secondMany, .ref msecondKeys, .ref msecondValues, .ref msecondHeights, .ref msecondHeats, .int o_19, .int o_20, .int o_21, .int mo_bestsDone, .ref msaved, .ref mbestHeights, .int mo_seenMany, .ref msights, .ref mby, .int mo_seedNow, .int mo_keptRow, .int mo_keptMany, .int mo_keptSecond, .int mo_keptAsked, .int mo_keptLooks, .int mo_keptChanges, .int mo_keptSeen, .ref mkeptKeys, .ref mkeptValues, .ref mkeptHeights, .ref mkeptHeats, .ref mkeptKeys2, .ref mkeptValues2, .ref mkeptHeights2, .ref mkeptHeats2, .ref mkeptSights, .long mo_hash])), (mkeys, .inl (cy, 8, .inl mkeys_a)), (mheights, .inl (cy, 8, .inl mheights_a))] H := hP
        have hD : va_D A [(mvalues, .inl (cy, 8, .inl mvalues_a)), (mheats, .inl (cy, 8, .inl mheats_a)), (mo, .inr (12, [.ref mpage, .int mo_pageMany, .int mo_law, .int mo_many, .int (mo_asked + 1), .int (mo_looksAll + o_20), .int mo_changes, .int mo_rowsRead, .ref mkeys, .ref mvalues, .ref mheights, .ref mheats, .int mo_secondMany, .ref msecondKeys, .ref msecondValues, .ref msecondHeights, .ref msecondHeats, .int o_19, .int o_20, .int o_21, .int mo_bestsDone, .ref msaved, .ref mbestHeights, .int mo_seenMany, .ref msights, .ref mby, .int mo_seedNow, .int mo_keptRow, .int mo_keptMany, .int mo_keptSecond, .int mo_keptAsked, .int mo_keptLooks, .int mo_keptChanges, .int mo_keptSeen, .ref mkeptKeys, .ref mkeptValues, .ref mkeptHeights, .ref mkeptHeats, .ref mkeptKeys2, .ref mkeptValues2, .ref mkeptHeights2, .ref mkeptHeats2, .ref mkeptSights, .long mo_hash])), (mkeys, .inl (cy, 8, .inl mkeys_a)), (mheights, .inl (cy, 8, .inl mheights_a))] := hD
        refine lv_aload_n hx hb dX12_ask_73 rfl (lv_at hl 0 rfl) ?_
        refine va_get (D := D) (ci := 12) (v := .int o_19) (C := RX12) (T := TX12) (N := 44) hx hb htb inX12 hown hK hP 2 rfl rfl 17 (by decide) (htb _ tw_780) (fun _ h9 => h9) rfl dX12_ask_74 ?_
        refine lv_iconst (v := (-1)) hx hb dX12_ask_77 (by decide) ?_
        refine lv_icmp_eq (tgt := 94) hx hb dX12_ask_78 (by decide) (fun c_24 => ?_) (fun c_24 => ?_)
        · have k_24 : o_19.toInt = (-1) := wk_eq c_24
          rw [if_pos c_24] at hF
          refine lv_aload_n hx hb dX12_ask_94 rfl (lv_at hl 0 rfl) ?_
          refine lv_iconst (v := 3) hx hb dX12_ask_95 (by decide) ?_
          refine wk_iV (As := [.int 3]) (rest := []) (wc := [(mo, .inr (12, [.ref mpage, .int mo_pageMany, .int mo_law, .int mo_many, .int (mo_asked + 1), .int (mo_looksAll + o_20), .int mo_changes, .int mo_rowsRead, .ref mkeys, .ref mvalues, .ref mheights, .ref mheats, .int mo_secondMany, .ref msecondKeys, .ref msecondValues, .ref msecondHeights, .ref msecondHeats, .int o_19, .int o_20, .int o_21, .int mo_bestsDone, .ref msaved, .ref mbestHeights, .int mo_seenMany, .ref msights, .ref mby, .int mo_seedNow, .int mo_keptRow, .int mo_keptMany, .int mo_keptSecond, .int mo_keptAsked, .int mo_keptLooks, .int mo_keptChanges, .int mo_keptSeen, .ref mkeptKeys, .ref mkeptValues, .ref mkeptHeights, .ref mkeptHeats, .ref mkeptKeys2, .ref mkeptValues2, .ref mkeptHeights2, .ref mkeptHeats2, .ref mkeptSights, .long mo_hash])), (mvalues, .inl (cy, 8, .inl mvalues_a))]) (wr := [(mheats, .inl (cy, 8, .inl mheats_a)), (mkeys, .inl (cy, 8, .inl mkeys_a)), (mheights, .inl (cy, 8, .inl mheights_a))]) (n := 1) ⟨hx, hb, hml, hown, htb⟩ (c_X12_tellFound l D cy mo mpage mkeys mvalues mheights mheats msecondKeys msecondValues msecondHeights msecondHeats msaved mbestHeights msights mby mkeptKeys mkeptValues mkeptHeights mkeptHeats mkeptKeys2 mkeptValues2 mkeptHeights2 mkeptHeats2 mkeptSights mo_pageMany mo_law mo_many (mo_asked + 1) (mo_looksAll + o_20) mo_changes mo_rowsRead mo_secondMany o_19 o_20 o_21 mo_bestsDone mo_seenMany mo_seedNow mo_keptRow mo_keptMany mo_keptSecond mo_keptAsked mo_keptLooks mo_keptChanges mo_keptSeen mo_hash mvalues_a 3 (show 0 ≤ mo_pageMany.toInt ∧ mo_pageMany.toInt ≤ 44 from by omega) (show 0 ≤ mo_many.toInt ∧ mo_many.toInt ≤ 8 from by omega) (show 0 ≤ mo_secondMany.toInt ∧ mo_secondMany.toInt ≤ 8 from by omega) (show (-1) ≤ o_19.toInt ∧ o_19.toInt ≤ 7 from by omega) (show 0 ≤ mo_seenMany.toInt ∧ mo_seenMany.toInt ≤ 6 from by omega) (show 0 ≤ mo_keptMany.toInt ∧ mo_keptMany.toInt ≤ 8 from by omega) (show 0 ≤ mo_keptSecond.toInt ∧ mo_keptSecond.toInt ≤ 8 from by omega) (show 0 ≤ mo_keptSeen.toInt ∧ mo_keptSeen.toInt ≤ 6 from by omega)) tw_989 tw_986 tw_988 tw_34 tw_71 rfl rfl (by decide +kernel) ⟨Nat.le_of_ble_eq_true rfl, Nat.le_of_ble_eq_true rfl⟩ hK hP hD hS hA [2, 0] [1, 3, 4] rfl rfl rfl rfl (by decide) 0 (ci := 12) rfl rfl rfl hl.1 rfl (Nat.le_of_ble_eq_true rfl) dX12_ask_96 ⟨Nat.le_of_ble_eq_true rfl, Nat.le_of_ble_eq_true rfl⟩ (fun r_25 u_26 H locs hw_27 hP hD hS => ?_)
          refine W.widen (k := 0) (n := 0) (by decide) (by decide) ?_
          have hw_27 : r_25 = (fn_X12_tellFound o_19 o_20 o_21 mvalues_a 3) := hw_27
          subst hw_27
          have hP : va_P D classes [(mheats, .inl (cy, 8, .inl mheats_a)), (mkeys, .inl (cy, 8, .inl mkeys_a)), (mheights, .inl (cy, 8, .inl mheights_a)), (mo, .inr (12, [.ref mpage, .int mo_pageMany, .int mo_law, .int mo_many, .int (mo_asked + 1), .int (mo_looksAll + o_20), .int mo_changes, .int mo_rowsRead, .ref mkeys, .ref mvalues, .ref mheights, .ref mheats, .int mo_secondMany, .ref msecondKeys, .ref msecondValues, .ref msecondHeights, .ref msecondHeats, .int o_19, .int o_20, .int o_21, .int mo_bestsDone, .ref msaved, .ref mbestHeights, .int mo_seenMany, .ref msights, .ref mby, .int mo_seedNow, .int mo_keptRow, .int mo_keptMany, .int mo_keptSecond, .int mo_keptAsked, .int mo_keptLooks, .int mo_keptChanges, .int mo_keptSeen, .ref mkeptKeys, .ref mkeptValues, .ref mkeptHeights, .ref mkeptHeats, .ref mkeptKeys2, .ref mkeptValues2, .ref mkeptHeights2, .ref mkeptHeats2, .ref mkeptSights, .long mo_hash])), (mvalues, .inl (cy, 8, .inl mvalues_a))] H := hP
          have hD : va_D A [(mheats, .inl (cy, 8, .inl mheats_a)), (mkeys, .inl (cy, 8, .inl mkeys_a)), (mheights, .inl (cy, 8, .inl mheights_a)), (mo, .inr (12, [.ref mpage, .int mo_pageMany, .int mo_law, .int mo_many, .int (mo_asked + 1), .int (mo_looksAll + o_20), .int mo_changes, .int mo_rowsRead, .ref mkeys, .ref mvalues, .ref mheights, .ref mheats, .int mo_secondMany, .ref msecondKeys, .ref msecondValues, .ref msecondHeights, .ref msecondHeats, .int o_19, .int o_20, .int o_21, .int mo_bestsDone, .ref msaved, .ref mbestHeights, .int mo_seenMany, .ref msights, .ref mby, .int mo_seedNow, .int mo_keptRow, .int mo_keptMany, .int mo_keptSecond, .int mo_keptAsked, .int mo_keptLooks, .int mo_keptChanges, .int mo_keptSeen, .ref mkeptKeys, .ref mkeptValues, .ref mkeptHeights, .ref mkeptHeats, .ref mkeptKeys2, .ref mkeptValues2, .ref mkeptHeights2, .ref mkeptHeats2, .ref mkeptSights, .long mo_hash])), (mvalues, .inl (cy, 8, .inl mvalues_a))] := hD
          refine W.widen (k := 0) (n := 0) (by decide) (by decide) ?_
          exact hret (fn_X12_tellFound o_19 o_20 o_21 mvalues_a 3) ((mo_asked + 1), (mo_looksAll + o_20), o_19, o_20, o_21, mheats_a) _ _ _ 99 (wk_sub9 (is := [3, 1, 4, 2, 0]) hP rfl) (hD.sub [3, 1, 4, 2, 0] rfl rfl) hS dX12_ask_99 ⟨hF.symm, (show ((-1) ≤ o_19.toInt ∧ o_19.toInt ≤ 7) from by omega)⟩
        · have k_24 : ¬ o_19.toInt = (-1) := wk_neq c_24
          rw [if_neg c_24] at hF
          exfalso; omega
      · have k_23 : ¬ o_19.toInt = (-1) := wk_neq c_23
        rw [if_neg c_23] at hF
        refine lv_aload_n hx hb dX12_ask_33 rfl (lv_at hl 0 rfl) ?_
        refine va_get (D := D) (ci := 12) (v := .ref mheats) (C := RX12) (T := TX12) (N := 44) hx hb htb inX12 hown hK hP 2 rfl rfl 11 (by decide) (htb _ tw_774) (fun _ h9 => h9) rfl dX12_ask_34 ?_
        refine lv_aload_n hx hb dX12_ask_37 rfl (lv_at hl 0 rfl) ?_
        refine va_get (D := D) (ci := 12) (v := .int o_19) (C := RX12) (T := TX12) (N := 44) hx hb htb inX12 hown hK hP 2 rfl rfl 17 (by decide) (htb _ tw_780) (fun _ h9 => h9) rfl dX12_ask_38 ?_
        refine va_iald hx hb hK hP 1 0 rfl rfl (show vp_in o_19 8 from vp_in_iff.mpr (show 0 ≤ o_19.toInt ∧ o_19.toInt < ((8 : Nat) : Int) from by omega)) dX12_ask_41 ?_
        refine lv_bipush (v := 99) hx hb dX12_ask_42 (by decide) ?_
        refine lv_icmp_ne (tgt := 50) hx hb dX12_ask_44 (by decide) (fun c_28 => ?_) (fun c_28 => ?_)
        · have k_28 : ¬ (mheats_a o_19.toNatClampNeg).toInt = 99 := wk_neq c_28
          rw [if_neg c_28] at hF
          refine lv_aload_n hx hb dX12_ask_50 rfl (lv_at hl 0 rfl) ?_
          refine lv_dup hx hb dX12_ask_51 rfl ?_
          refine va_get (D := D) (ci := 12) (v := .int mo_asked) (C := RX12) (T := TX12) (N := 44) hx hb htb inX12 hown hK hP 2 rfl rfl 4 (by decide) (htb _ tw_767) (fun _ h9 => h9) rfl dX12_ask_52 ?_
          refine lv_iconst (v := 1) hx hb dX12_ask_55 (by decide) ?_
          refine lv_iadd hx hb dX12_ask_56 ?_
          refine va_put (D := D) (ci := 12) (v := .int (mo_asked + 1)) (ty := .int) (C := RX12) (T := TX12) (N := 44) hx hb htb inX12 tyX12 tyX12_ok nmX12 hown hK hP hD hS 2 rfl rfl 4 (by decide) (htb _ tw_767) (fun _ h9 => h9) rfl (by decide +kernel) rfl rfl (Nat.le_of_ble_eq_true rfl) dX12_ask_57 (fun H locs hP hD hS => ?_)
          have hP : va_P D classes [(mvalues, .inl (cy, 8, .inl mvalues_a)), (mheats, .inl (cy, 8, .inl mheats_a)), (mo, .inr (12, [.ref mpage, .int mo_pageMany, .int mo_law, .int mo_many, .int (mo_asked + 1), .int mo_looksAll, .int mo_changes, .int mo_rowsRead, .ref mkeys, .ref mvalues, .ref mheights, .ref mheats, .int mo_secondMany, .ref msecondKeys, .ref msecondValues, .ref msecondHeights, .ref msecondHeats, .int o_19, .int o_20, .int o_21, .int mo_bestsDone, .ref msaved, .ref mbestHeights, .int mo_seenMany, .ref msights, .ref mby, .int mo_seedNow, .int mo_keptRow, .int mo_keptMany, .int mo_keptSecond, .int mo_keptAsked, .int mo_keptLooks, .int mo_keptChanges, .int mo_keptSeen, .ref mkeptKeys, .ref mkeptValues, .ref mkeptHeights, .ref mkeptHeats, .ref mkeptKeys2, .ref mkeptValues2, .ref mkeptHeights2, .ref mkeptHeats2, .ref mkeptSights, .long mo_hash])), (mkeys, .inl (cy, 8, .inl mkeys_a)), (mheights, .inl (cy, 8, .inl mheights_a))] H := hP
          have hD : va_D A [(mvalues, .inl (cy, 8, .inl mvalues_a)), (mheats, .inl (cy, 8, .inl mheats_a)), (mo, .inr (12, [.ref mpage, .int mo_pageMany, .int mo_law, .int mo_many, .int (mo_asked + 1), .int mo_looksAll, .int mo_changes, .int mo_rowsRead, .ref mkeys, .ref mvalues, .ref mheights, .ref mheats, .int mo_secondMany, .ref msecondKeys, .ref msecondValues, .ref msecondHeights, .ref msecondHeats, .int o_19, .int o_20, .int o_21, .int mo_bestsDone, .ref msaved, .ref mbestHeights, .int mo_seenMany, .ref msights, .ref mby, .int mo_seedNow, .int mo_keptRow, .int mo_keptMany, .int mo_keptSecond, .int mo_keptAsked, .int mo_keptLooks, .int mo_keptChanges, .int mo_keptSeen, .ref mkeptKeys, .ref mkeptValues, .ref mkeptHeights, .ref mkeptHeats, .ref mkeptKeys2, .ref mkeptValues2, .ref mkeptHeights2, .ref mkeptHeats2, .ref mkeptSights, .long mo_hash])), (mkeys, .inl (cy, 8, .inl mkeys_a)), (mheights, .inl (cy, 8, .inl mheights_a))] := hD
          refine lv_aload_n hx hb dX12_ask_60 rfl (lv_at hl 0 rfl) ?_
          refine lv_dup hx hb dX12_ask_61 rfl ?_
          refine va_get (D := D) (ci := 12) (v := .int mo_looksAll) (C := RX12) (T := TX12) (N := 44) hx hb htb inX12 hown hK hP 2 rfl rfl 5 (by decide) (htb _ tw_768) (fun _ h9 => h9) rfl dX12_ask_62 ?_
          refine lv_aload_n hx hb dX12_ask_65 rfl (lv_at hl 0 rfl) ?_
          refine va_get (D := D) (ci := 12) (v := .int o_20) (C := RX12) (T := TX12) (N := 44) hx hb htb inX12 hown hK hP 2 rfl rfl 18 (by decide) (htb _ tw_781) (fun _ h9 => h9) rfl dX12_ask_66 ?_
          refine lv_iadd hx hb dX12_ask_69 ?_
          refine va_put (D := D) (ci := 12) (v := .int (mo_looksAll + o_20)) (ty := .int) (C := RX12) (T := TX12) (N := 44) hx hb htb inX12 tyX12 tyX12_ok nmX12 hown hK hP hD hS 2 rfl rfl 5 (by decide) (htb _ tw_768) (fun _ h9 => h9) rfl (by decide +kernel) rfl rfl (Nat.le_of_ble_eq_true rfl) dX12_ask_70 (fun H locs hP hD hS => ?_)
          have hP : va_P D classes [(mvalues, .inl (cy, 8, .inl mvalues_a)), (mheats, .inl (cy, 8, .inl mheats_a)), (mo, .inr (12, [.ref mpage, .int mo_pageMany, .int mo_law, .int mo_many, .int (mo_asked + 1), .int (mo_looksAll + o_20), .int mo_changes, .int mo_rowsRead, .ref mkeys, .ref mvalues, .ref mheights, .ref mheats, .int mo_secondMany, .ref msecondKeys, .ref msecondValues, .ref msecondHeights, .ref msecondHeats, .int o_19, .int o_20, .int o_21, .int mo_bestsDone, .ref msaved, .ref mbestHeights, .int mo_seenMany, .ref msights, .ref mby, .int mo_seedNow, .int mo_keptRow, .int mo_keptMany, .int mo_keptSecond, .int mo_keptAsked, .int mo_keptLooks, .int mo_keptChanges, .int mo_keptSeen, .ref mkeptKeys, .ref mkeptValues, .ref mkeptHeights, .ref mkeptHeats, .ref mkeptKeys2, .ref mkeptValues2, .ref mkeptHeights2, .ref mkeptHeats2, .ref mkeptSights, .long mo_hash])), (mkeys, .inl (cy, 8, .inl mkeys_a)), (mheights, .inl (cy, 8, .inl mheights_a))] H := hP
          have hD : va_D A [(mvalues, .inl (cy, 8, .inl mvalues_a)), (mheats, .inl (cy, 8, .inl mheats_a)), (mo, .inr (12, [.ref mpage, .int mo_pageMany, .int mo_law, .int mo_many, .int (mo_asked + 1), .int (mo_looksAll + o_20), .int mo_changes, .int mo_rowsRead, .ref mkeys, .ref mvalues, .ref mheights, .ref mheats, .int mo_secondMany, .ref msecondKeys, .ref msecondValues, .ref msecondHeights, .ref msecondHeats, .int o_19, .int o_20, .int o_21, .int mo_bestsDone, .ref msaved, .ref mbestHeights, .int mo_seenMany, .ref msights, .ref mby, .int mo_seedNow, .int mo_keptRow, .int mo_keptMany, .int mo_keptSecond, .int mo_keptAsked, .int mo_keptLooks, .int mo_keptChanges, .int mo_keptSeen, .ref mkeptKeys, .ref mkeptValues, .ref mkeptHeights, .ref mkeptHeats, .ref mkeptKeys2, .ref mkeptValues2, .ref mkeptHeights2, .ref mkeptHeats2, .ref mkeptSights, .long mo_hash])), (mkeys, .inl (cy, 8, .inl mkeys_a)), (mheights, .inl (cy, 8, .inl mheights_a))] := hD
          refine lv_aload_n hx hb dX12_ask_73 rfl (lv_at hl 0 rfl) ?_
          refine va_get (D := D) (ci := 12) (v := .int o_19) (C := RX12) (T := TX12) (N := 44) hx hb htb inX12 hown hK hP 2 rfl rfl 17 (by decide) (htb _ tw_780) (fun _ h9 => h9) rfl dX12_ask_74 ?_
          refine lv_iconst (v := (-1)) hx hb dX12_ask_77 (by decide) ?_
          refine lv_icmp_eq (tgt := 94) hx hb dX12_ask_78 (by decide) (fun c_29 => ?_) (fun c_29 => ?_)
          · have k_29 : o_19.toInt = (-1) := wk_eq c_29
            rw [if_pos c_29] at hF
            exfalso; omega
          · have k_29 : ¬ o_19.toInt = (-1) := wk_neq c_29
            rw [if_neg c_29] at hF
            refine lv_aload_n hx hb dX12_ask_81 rfl (lv_at hl 0 rfl) ?_
            refine va_get (D := D) (ci := 12) (v := .ref mheats) (C := RX12) (T := TX12) (N := 44) hx hb htb inX12 hown hK hP 2 rfl rfl 11 (by decide) (htb _ tw_774) (fun _ h9 => h9) rfl dX12_ask_82 ?_
            refine lv_aload_n hx hb dX12_ask_85 rfl (lv_at hl 0 rfl) ?_
            refine va_get (D := D) (ci := 12) (v := .int o_19) (C := RX12) (T := TX12) (N := 44) hx hb htb inX12 hown hK hP 2 rfl rfl 17 (by decide) (htb _ tw_780) (fun _ h9 => h9) rfl dX12_ask_86 ?_
            refine lv_dup2_11 hx hb dX12_ask_89 rfl rfl ?_
            refine va_iald hx hb hK hP 1 0 rfl rfl (show vp_in o_19 8 from vp_in_iff.mpr (show 0 ≤ o_19.toInt ∧ o_19.toInt < ((8 : Nat) : Int) from by omega)) dX12_ask_90 ?_
            refine lv_iconst (v := 1) hx hb dX12_ask_91 (by decide) ?_
            refine lv_iadd hx hb dX12_ask_92 ?_
            refine va_iast hx hb hK hP hD hS 1 0 rfl rfl (show vp_in o_19 8 from vp_in_iff.mpr (show 0 ≤ o_19.toInt ∧ o_19.toInt < ((8 : Nat) : Int) from by omega)) dX12_ask_93 (fun H locs hP hD hS => ?_)
            have hP : va_P D classes [(mvalues, .inl (cy, 8, .inl mvalues_a)), (mheats, .inl (cy, 8, .inl (upd mheats_a o_19.toNatClampNeg ((mheats_a o_19.toNatClampNeg) + 1)))), (mo, .inr (12, [.ref mpage, .int mo_pageMany, .int mo_law, .int mo_many, .int (mo_asked + 1), .int (mo_looksAll + o_20), .int mo_changes, .int mo_rowsRead, .ref mkeys, .ref mvalues, .ref mheights, .ref mheats, .int mo_secondMany, .ref msecondKeys, .ref msecondValues, .ref msecondHeights, .ref msecondHeats, .int o_19, .int o_20, .int o_21, .int mo_bestsDone, .ref msaved, .ref mbestHeights, .int mo_seenMany, .ref msights, .ref mby, .int mo_seedNow, .int mo_keptRow, .int mo_keptMany, .int mo_keptSecond, .int mo_keptAsked, .int mo_keptLooks, .int mo_keptChanges, .int mo_keptSeen, .ref mkeptKeys, .ref mkeptValues, .ref mkeptHeights, .ref mkeptHeats, .ref mkeptKeys2, .ref mkeptValues2, .ref mkeptHeights2, .ref mkeptHeats2, .ref mkeptSights, .long mo_hash])), (mkeys, .inl (cy, 8, .inl mkeys_a)), (mheights, .inl (cy, 8, .inl mheights_a))] H := hP
            have hD : va_D A [(mvalues, .inl (cy, 8, .inl mvalues_a)), (mheats, .inl (cy, 8, .inl (upd mheats_a o_19.toNatClampNeg ((mheats_a o_19.toNatClampNeg) + 1)))), (mo, .inr (12, [.ref mpage, .int mo_pageMany, .int mo_law, .int mo_many, .int (mo_asked + 1), .int (mo_looksAll + o_20), .int mo_changes, .int mo_rowsRead, .ref mkeys, .ref mvalues, .ref mheights, .ref mheats, .int mo_secondMany, .ref msecondKeys, .ref msecondValues, .ref msecondHeights, .ref msecondHeats, .int o_19, .int o_20, .int o_21, .int mo_bestsDone, .ref msaved, .ref mbestHeights, .int mo_seenMany, .ref msights, .ref mby, .int mo_seedNow, .int mo_keptRow, .int mo_keptMany, .int mo_keptSecond, .int mo_keptAsked, .int mo_keptLooks, .int mo_keptChanges, .int mo_keptSeen, .ref mkeptKeys, .ref mkeptValues, .ref mkeptHeights, .ref mkeptHeats, .ref mkeptKeys2, .ref mkeptValues2, .ref mkeptHeights2, .ref mkeptHeats2, .ref mkeptSights, .long mo_hash])), (mkeys, .inl (cy, 8, .inl mkeys_a)), (mheights, .inl (cy, 8, .inl mheights_a))] := hD
            refine lv_aload_n hx hb dX12_ask_94 rfl (lv_at hl 0 rfl) ?_
            refine lv_iconst (v := 3) hx hb dX12_ask_95 (by decide) ?_
            refine wk_iV (As := [.int 3]) (rest := []) (wc := [(mo, .inr (12, [.ref mpage, .int mo_pageMany, .int mo_law, .int mo_many, .int (mo_asked + 1), .int (mo_looksAll + o_20), .int mo_changes, .int mo_rowsRead, .ref mkeys, .ref mvalues, .ref mheights, .ref mheats, .int mo_secondMany, .ref msecondKeys, .ref msecondValues, .ref msecondHeights, .ref msecondHeats, .int o_19, .int o_20, .int o_21, .int mo_bestsDone, .ref msaved, .ref mbestHeights, .int mo_seenMany, .ref msights, .ref mby, .int mo_seedNow, .int mo_keptRow, .int mo_keptMany, .int mo_keptSecond, .int mo_keptAsked, .int mo_keptLooks, .int mo_keptChanges, .int mo_keptSeen, .ref mkeptKeys, .ref mkeptValues, .ref mkeptHeights, .ref mkeptHeats, .ref mkeptKeys2, .ref mkeptValues2, .ref mkeptHeights2, .ref mkeptHeats2, .ref mkeptSights, .long mo_hash])), (mvalues, .inl (cy, 8, .inl mvalues_a))]) (wr := [(mheats, .inl (cy, 8, .inl (upd mheats_a o_19.toNatClampNeg ((mheats_a o_19.toNatClampNeg) + 1)))), (mkeys, .inl (cy, 8, .inl mkeys_a)), (mheights, .inl (cy, 8, .inl mheights_a))]) (n := 1) ⟨hx, hb, hml, hown, htb⟩ (c_X12_tellFound l D cy mo mpage mkeys mvalues mheights mheats msecondKeys msecondValues msecondHeights msecondHeats msaved mbestHeights msights mby mkeptKeys mkeptValues mkeptHeights mkeptHeats mkeptKeys2 mkeptValues2 mkeptHeights2 mkeptHeats2 mkeptSights mo_pageMany mo_law mo_many (mo_asked + 1) (mo_looksAll + o_20) mo_changes mo_rowsRead mo_secondMany o_19 o_20 o_21 mo_bestsDone mo_seenMany mo_seedNow mo_keptRow mo_keptMany mo_keptSecond mo_keptAsked mo_keptLooks mo_keptChanges mo_keptSeen mo_hash mvalues_a 3 (show 0 ≤ mo_pageMany.toInt ∧ mo_pageMany.toInt ≤ 44 from by omega) (show 0 ≤ mo_many.toInt ∧ mo_many.toInt ≤ 8 from by omega) (show 0 ≤ mo_secondMany.toInt ∧ mo_secondMany.toInt ≤ 8 from by omega) (show (-1) ≤ o_19.toInt ∧ o_19.toInt ≤ 7 from by omega) (show 0 ≤ mo_seenMany.toInt ∧ mo_seenMany.toInt ≤ 6 from by omega) (show 0 ≤ mo_keptMany.toInt ∧ mo_keptMany.toInt ≤ 8 from by omega) (show 0 ≤ mo_keptSecond.toInt ∧ mo_keptSecond.toInt ≤ 8 from by omega) (show 0 ≤ mo_keptSeen.toInt ∧ mo_keptSeen.toInt ≤ 6 from by omega)) tw_989 tw_986 tw_988 tw_34 tw_71 rfl rfl (by decide +kernel) ⟨Nat.le_of_ble_eq_true rfl, Nat.le_of_ble_eq_true rfl⟩ hK hP hD hS hA [2, 0] [1, 3, 4] rfl rfl rfl rfl (by decide) 0 (ci := 12) rfl rfl rfl hl.1 rfl (Nat.le_of_ble_eq_true rfl) dX12_ask_96 ⟨Nat.le_of_ble_eq_true rfl, Nat.le_of_ble_eq_true rfl⟩ (fun r_30 u_31 H locs hw_32 hP hD hS => ?_)
            refine W.widen (k := 0) (n := 0) (by decide) (by decide) ?_
            have hw_32 : r_30 = (fn_X12_tellFound o_19 o_20 o_21 mvalues_a 3) := hw_32
            subst hw_32
            have hP : va_P D classes [(mheats, .inl (cy, 8, .inl (upd mheats_a o_19.toNatClampNeg ((mheats_a o_19.toNatClampNeg) + 1)))), (mkeys, .inl (cy, 8, .inl mkeys_a)), (mheights, .inl (cy, 8, .inl mheights_a)), (mo, .inr (12, [.ref mpage, .int mo_pageMany, .int mo_law, .int mo_many, .int (mo_asked + 1), .int (mo_looksAll + o_20), .int mo_changes, .int mo_rowsRead, .ref mkeys, .ref mvalues, .ref mheights, .ref mheats, .int mo_secondMany, .ref msecondKeys, .ref msecondValues, .ref msecondHeights, .ref msecondHeats, .int o_19, .int o_20, .int o_21, .int mo_bestsDone, .ref msaved, .ref mbestHeights, .int mo_seenMany, .ref msights, .ref mby, .int mo_seedNow, .int mo_keptRow, .int mo_keptMany, .int mo_keptSecond, .int mo_keptAsked, .int mo_keptLooks, .int mo_keptChanges, .int mo_keptSeen, .ref mkeptKeys, .ref mkeptValues, .ref mkeptHeights, .ref mkeptHeats, .ref mkeptKeys2, .ref mkeptValues2, .ref mkeptHeights2, .ref mkeptHeats2, .ref mkeptSights, .long mo_hash])), (mvalues, .inl (cy, 8, .inl mvalues_a))] H := hP
            have hD : va_D A [(mheats, .inl (cy, 8, .inl (upd mheats_a o_19.toNatClampNeg ((mheats_a o_19.toNatClampNeg) + 1)))), (mkeys, .inl (cy, 8, .inl mkeys_a)), (mheights, .inl (cy, 8, .inl mheights_a)), (mo, .inr (12, [.ref mpage, .int mo_pageMany, .int mo_law, .int mo_many, .int (mo_asked + 1), .int (mo_looksAll + o_20), .int mo_changes, .int mo_rowsRead, .ref mkeys, .ref mvalues, .ref mheights, .ref mheats, .int mo_secondMany, .ref msecondKeys, .ref msecondValues, .ref msecondHeights, .ref msecondHeats, .int o_19, .int o_20, .int o_21, .int mo_bestsDone, .ref msaved, .ref mbestHeights, .int mo_seenMany, .ref msights, .ref mby, .int mo_seedNow, .int mo_keptRow, .int mo_keptMany, .int mo_keptSecond, .int mo_keptAsked, .int mo_keptLooks, .int mo_keptChanges, .int mo_keptSeen, .ref mkeptKeys, .ref mkeptValues, .ref mkeptHeights, .ref mkeptHeats, .ref mkeptKeys2, .ref mkeptValues2, .ref mkeptHeights2, .ref mkeptHeats2, .ref mkeptSights, .long mo_hash])), (mvalues, .inl (cy, 8, .inl mvalues_a))] := hD
            refine W.widen (k := 0) (n := 0) (by decide) (by decide) ?_
            exact hret (fn_X12_tellFound o_19 o_20 o_21 mvalues_a 3) ((mo_asked + 1), (mo_looksAll + o_20), o_19, o_20, o_21, (upd mheats_a o_19.toNatClampNeg ((mheats_a o_19.toNatClampNeg) + 1))) _ _ _ 99 (wk_sub9 (is := [3, 1, 4, 2, 0]) hP rfl) (hD.sub [3, 1, 4, 2, 0] rfl rfl) hS dX12_ask_99 ⟨hF.symm, (show ((-1) ≤ o_19.toInt ∧ o_19.toInt ≤ 7) from by omega)⟩
        · have k_28 : (mheats_a o_19.toNatClampNeg).toInt = 99 := wk_eq c_28
          rw [if_pos c_28] at hF
          refine lv_bipush (v := (-104)) hx hb dX12_ask_47 (by decide) ?_
          refine W.widen (k := 0) (n := 0) (by decide) (by decide) ?_
          exact hret (-104) (mo_asked, mo_looksAll, o_19, o_20, o_21, mheats_a) _ _ _ 49 (wk_sub9 (is := [2, 3, 0, 4, 1]) hP rfl) (hD.sub [2, 3, 0, 4, 1] rfl rfl) hS dX12_ask_49 ⟨hF.symm, (show ((-1) ≤ o_19.toInt ∧ o_19.toInt ≤ 7) from by omega)⟩
    · have k_15 : ¬ (fn_X12_lacks mo_many).toInt = 0 := wk_neq c_15
      rw [if_neg c_15] at hF
      refine lv_bipush (v := (-103)) hx hb dX12_ask_17 (by decide) ?_
      refine W.widen (k := 0) (n := 0) (by decide) (by decide) ?_
      exact hret (-103) (mo_asked, mo_looksAll, mo_foundAt, mo_foundLooks, mo_foundLane, mheats_a) _ _ _ 19 (wk_sub9 (is := [4, 0, 1, 2, 3]) hP rfl) (hD.sub [4, 0, 1, 2, 3] rfl rfl) hS dX12_ask_19 ⟨hF.symm, (show ((-1) ≤ mo_foundAt.toInt ∧ mo_foundAt.toInt ≤ 7) from by omega)⟩
  · have k_7 : (fn_X12_isKey a).toInt = 0 := wk_eq c_7
    rw [if_pos c_7] at hF
    refine lv_bipush (v := (-102)) hx hb dX12_ask_7 (by decide) ?_
    refine W.widen (k := 0) (n := 0) (by decide) (by decide) ?_
    exact hret (-102) (mo_asked, mo_looksAll, mo_foundAt, mo_foundLooks, mo_foundLane, mheats_a) _ _ _ 9 (wk_sub9 (is := [0, 1, 2, 3, 4]) hP rfl) (hD.sub [0, 1, 2, 3, 4] rfl rfl) hS dX12_ask_9 ⟨hF.symm, (show ((-1) ≤ mo_foundAt.toInt ∧ mo_foundAt.toInt ≤ 7) from by omega)⟩
def lp_X12_widest_12 (mo_many : Int32) (mheights_a : Nat → Int32) (a : Int32) : Nat → Int32 → Int32 → Int32 → Int32 × Int32 × Int32
  | 0, _, _, _ => default
  | fu_12 + 1, x2_12, x3_12, x4_12 => (if x4_12 = (-1) then (x2_12, x3_12, x4_12) else (if (x4_12 - x3_12) ≤ x2_12 then (lp_X12_widest_12 mo_many mheights_a a fu_12 x2_12 x4_12 (fn_X12_nextIn mo_many mheights_a x4_12 a)) else (lp_X12_widest_12 mo_many mheights_a a fu_12 (x4_12 - x3_12) x4_12 (fn_X12_nextIn mo_many mheights_a x4_12 a))))
termination_by n => n
def fn_X12_widest (mo_many : Int32) (mheights_a : Nat → Int32) (a : Int32) : Int32 := (pm2 (lp_X12_widest_12 mo_many mheights_a a 12 (-1) (-1) (fn_X12_nextIn mo_many mheights_a (-1) a)) (fun x2_12 t_ => (pm2 (t_) (fun x3_12 x4_12 => x2_12))))
theorem dX12_widest_0 : decode cX12_widest 0 = .ok (.iconst (-1), 1) := by decide +kernel
theorem dX12_widest_1 : decode cX12_widest 1 = .ok (.istore_n 2, 1) := by decide +kernel
theorem dX12_widest_2 : decode cX12_widest 2 = .ok (.iconst (-1), 1) := by decide +kernel
theorem dX12_widest_3 : decode cX12_widest 3 = .ok (.istore_n 3, 1) := by decide +kernel
theorem dX12_widest_4 : decode cX12_widest 4 = .ok (.aload_n 0, 1) := by decide +kernel
theorem dX12_widest_5 : decode cX12_widest 5 = .ok (.iload_n 3, 1) := by decide +kernel
theorem dX12_widest_6 : decode cX12_widest 6 = .ok (.iload_n 1, 1) := by decide +kernel
theorem dX12_widest_7 : decode cX12_widest 7 = .ok (.invokevirtual 155, 3) := by decide +kernel
theorem dX12_widest_10 : decode cX12_widest 10 = .ok (.istore 4, 2) := by decide +kernel
theorem dX12_widest_12 : decode cX12_widest 12 = .ok (.iload 4, 2) := by decide +kernel
theorem dX12_widest_14 : decode cX12_widest 14 = .ok (.iconst (-1), 1) := by decide +kernel
theorem dX12_widest_15 : decode cX12_widest 15 = .ok (.if_icmp .eq 34, 3) := by decide +kernel
theorem dX12_widest_18 : decode cX12_widest 18 = .ok (.iload 4, 2) := by decide +kernel
theorem dX12_widest_20 : decode cX12_widest 20 = .ok (.iload_n 3, 1) := by decide +kernel
theorem dX12_widest_21 : decode cX12_widest 21 = .ok (.isub, 1) := by decide +kernel
theorem dX12_widest_22 : decode cX12_widest 22 = .ok (.iload_n 2, 1) := by decide +kernel
theorem dX12_widest_23 : decode cX12_widest 23 = .ok (.if_icmp .le 10, 3) := by decide +kernel
theorem dX12_widest_26 : decode cX12_widest 26 = .ok (.iload 4, 2) := by decide +kernel
theorem dX12_widest_28 : decode cX12_widest 28 = .ok (.iload_n 3, 1) := by decide +kernel
theorem dX12_widest_29 : decode cX12_widest 29 = .ok (.isub, 1) := by decide +kernel
theorem dX12_widest_30 : decode cX12_widest 30 = .ok (.goto 4, 3) := by decide +kernel
theorem dX12_widest_33 : decode cX12_widest 33 = .ok (.iload_n 2, 1) := by decide +kernel
theorem dX12_widest_34 : decode cX12_widest 34 = .ok (.istore_n 2, 1) := by decide +kernel
theorem dX12_widest_35 : decode cX12_widest 35 = .ok (.iload 4, 2) := by decide +kernel
theorem dX12_widest_37 : decode cX12_widest 37 = .ok (.istore_n 3, 1) := by decide +kernel
theorem dX12_widest_38 : decode cX12_widest 38 = .ok (.aload_n 0, 1) := by decide +kernel
theorem dX12_widest_39 : decode cX12_widest 39 = .ok (.iload_n 3, 1) := by decide +kernel
theorem dX12_widest_40 : decode cX12_widest 40 = .ok (.iload_n 1, 1) := by decide +kernel
theorem dX12_widest_41 : decode cX12_widest 41 = .ok (.invokevirtual 155, 3) := by decide +kernel
theorem dX12_widest_44 : decode cX12_widest 44 = .ok (.istore 4, 2) := by decide +kernel
theorem dX12_widest_46 : decode cX12_widest 46 = .ok (.goto (-34), 3) := by decide +kernel
theorem dX12_widest_49 : decode cX12_widest 49 = .ok (.iload_n 2, 1) := by decide +kernel
theorem dX12_widest_50 : decode cX12_widest 50 = .ok (.ireturn, 1) := by decide +kernel
set_option maxHeartbeats 4000000 in
set_option maxRecDepth 100000 in
theorem c_X12_widest (l : Launch) (D : va_G) (cy : ClassId) (mo mpage mkeys mvalues mheights mheats msecondKeys msecondValues msecondHeights msecondHeats msaved mbestHeights msights mby mkeptKeys mkeptValues mkeptHeights mkeptHeats mkeptKeys2 mkeptValues2 mkeptHeights2 mkeptHeats2 mkeptSights : Nat) (mo_pageMany : Int32) (mo_law : Int32) (mo_many : Int32) (mo_asked : Int32) (mo_looksAll : Int32) (mo_changes : Int32) (mo_rowsRead : Int32) (mo_secondMany : Int32) (mo_foundAt : Int32) (mo_foundLooks : Int32) (mo_foundLane : Int32) (mo_bestsDone : Int32) (mo_seenMany : Int32) (mo_seedNow : Int32) (mo_keptRow : Int32) (mo_keptMany : Int32) (mo_keptSecond : Int32) (mo_keptAsked : Int32) (mo_keptLooks : Int32) (mo_keptChanges : Int32) (mo_keptSeen : Int32) (mo_hash : Int64) (mheights_a : Nat → Int32) (a : Int32) (g_0 : 0 ≤ mo_pageMany.toInt ∧ mo_pageMany.toInt ≤ 44) (g_1 : 0 ≤ mo_many.toInt ∧ mo_many.toInt ≤ 8) (g_2 : 0 ≤ mo_secondMany.toInt ∧ mo_secondMany.toInt ≤ 8) (g_3 : (-1) ≤ mo_foundAt.toInt ∧ mo_foundAt.toInt ≤ 7) (g_4 : 0 ≤ mo_seenMany.toInt ∧ mo_seenMany.toInt ≤ 6) (g_5 : 0 ≤ mo_keptMany.toInt ∧ mo_keptMany.toInt ≤ 8) (g_6 : 0 ≤ mo_keptSecond.toInt ∧ mo_keptSecond.toInt ≤ 8) (g_7 : 0 ≤ mo_keptSeen.toInt ∧ mo_keptSeen.toInt ≤ 6) : wk_Ci l yX12_widest cX12_widest 5 (some .int) { frames := 1, cells := 0, slots := 0, locals := 23 } D cy [.ref mo, .int a] [(mo, .inr (12, [.ref mpage, .int mo_pageMany, .int mo_law, .int mo_many, .int mo_asked, .int mo_looksAll, .int mo_changes, .int mo_rowsRead, .ref mkeys, .ref mvalues, .ref mheights, .ref mheats, .int mo_secondMany, .ref msecondKeys, .ref msecondValues, .ref msecondHeights, .ref msecondHeats, .int mo_foundAt, .int mo_foundLooks, .int mo_foundLane, .int mo_bestsDone, .ref msaved, .ref mbestHeights, .int mo_seenMany, .ref msights, .ref mby, .int mo_seedNow, .int mo_keptRow, .int mo_keptMany, .int mo_keptSecond, .int mo_keptAsked, .int mo_keptLooks, .int mo_keptChanges, .int mo_keptSeen, .ref mkeptKeys, .ref mkeptValues, .ref mkeptHeights, .ref mkeptHeats, .ref mkeptKeys2, .ref mkeptValues2, .ref mkeptHeights2, .ref mkeptHeats2, .ref mkeptSights, .long mo_hash])), (mheights, .inl (cy, 8, .inl mheights_a))] 0 0 (fun (r : Int32) (u : Unit) => r = (fn_X12_widest mo_many mheights_a a)) (fun u => [(mo, .inr (12, [.ref mpage, .int mo_pageMany, .int mo_law, .int mo_many, .int mo_asked, .int mo_looksAll, .int mo_changes, .int mo_rowsRead, .ref mkeys, .ref mvalues, .ref mheights, .ref mheats, .int mo_secondMany, .ref msecondKeys, .ref msecondValues, .ref msecondHeights, .ref msecondHeats, .int mo_foundAt, .int mo_foundLooks, .int mo_foundLane, .int mo_bestsDone, .ref msaved, .ref mbestHeights, .int mo_seenMany, .ref msights, .ref mby, .int mo_seedNow, .int mo_keptRow, .int mo_keptMany, .int mo_keptSecond, .int mo_keptAsked, .int mo_keptLooks, .int mo_keptChanges, .int mo_keptSeen, .ref mkeptKeys, .ref mkeptValues, .ref mkeptHeights, .ref mkeptHeats, .ref mkeptKeys2, .ref mkeptValues2, .ref mkeptHeights2, .ref mkeptHeats2, .ref mkeptSights, .long mo_hash])), (mheights, .inl (cy, 8, .inl mheights_a))]) := by
  refine wk_mk2Ci (by decide) (Nat.le_of_ble_eq_true rfl) ?_
  intro p e s m args below meth c A ls Q B hA hK hP hD hS hl hret
  obtain ⟨hx, hb, hr, hlocks, hml, hown, htb, hin⟩ := B
  have hl : lv_has ls 5 [(0, .ref mo), (1, .int a)] := hl
  have hF : (fn_X12_widest mo_many mheights_a a) = (fn_X12_widest mo_many mheights_a a) := rfl
  conv at hF => rhs; unfold fn_X12_widest
  refine lv_iconst (v := (-1)) hx hb dX12_widest_0 (by decide) ?_
  refine lv_istore_n (lv' := [(2, .int (-1)), (0, .ref mo), (1, .int a)]) hx hb dX12_widest_1 rfl hl (by decide) rfl (fun ls hl => ?_)
  refine lv_iconst (v := (-1)) hx hb dX12_widest_2 (by decide) ?_
  refine lv_istore_n (lv' := [(3, .int (-1)), (2, .int (-1)), (0, .ref mo), (1, .int a)]) hx hb dX12_widest_3 rfl hl (by decide) rfl (fun ls hl => ?_)
  refine lv_aload_n hx hb dX12_widest_4 rfl (lv_at hl 2 rfl) ?_
  refine lv_iload_n hx hb dX12_widest_5 rfl (lv_at hl 0 rfl) ?_
  refine lv_iload_n hx hb dX12_widest_6 rfl (lv_at hl 3 rfl) ?_
  refine wk_iV (As := [.int (-1), .int a]) (rest := []) (wc := [(mo, .inr (12, [.ref mpage, .int mo_pageMany, .int mo_law, .int mo_many, .int mo_asked, .int mo_looksAll, .int mo_changes, .int mo_rowsRead, .ref mkeys, .ref mvalues, .ref mheights, .ref mheats, .int mo_secondMany, .ref msecondKeys, .ref msecondValues, .ref msecondHeights, .ref msecondHeats, .int mo_foundAt, .int mo_foundLooks, .int mo_foundLane, .int mo_bestsDone, .ref msaved, .ref mbestHeights, .int mo_seenMany, .ref msights, .ref mby, .int mo_seedNow, .int mo_keptRow, .int mo_keptMany, .int mo_keptSecond, .int mo_keptAsked, .int mo_keptLooks, .int mo_keptChanges, .int mo_keptSeen, .ref mkeptKeys, .ref mkeptValues, .ref mkeptHeights, .ref mkeptHeats, .ref mkeptKeys2, .ref mkeptValues2, .ref mkeptHeights2, .ref mkeptHeats2, .ref mkeptSights, .long mo_hash])), (mheights, .inl (cy, 8, .inl mheights_a))]) (wr := []) (n := 2) ⟨hx, hb, hml, hown, htb⟩ (c_X12_nextIn l D cy mo mpage mkeys mvalues mheights mheats msecondKeys msecondValues msecondHeights msecondHeats msaved mbestHeights msights mby mkeptKeys mkeptValues mkeptHeights mkeptHeats mkeptKeys2 mkeptValues2 mkeptHeights2 mkeptHeats2 mkeptSights mo_pageMany mo_law mo_many mo_asked mo_looksAll mo_changes mo_rowsRead mo_secondMany mo_foundAt mo_foundLooks mo_foundLane mo_bestsDone mo_seenMany mo_seedNow mo_keptRow mo_keptMany mo_keptSecond mo_keptAsked mo_keptLooks mo_keptChanges mo_keptSeen mo_hash mheights_a (-1) a (show 0 ≤ mo_pageMany.toInt ∧ mo_pageMany.toInt ≤ 44 from by omega) (show 0 ≤ mo_many.toInt ∧ mo_many.toInt ≤ 8 from by omega) (show 0 ≤ mo_secondMany.toInt ∧ mo_secondMany.toInt ≤ 8 from by omega) (show (-1) ≤ mo_foundAt.toInt ∧ mo_foundAt.toInt ≤ 7 from by omega) (show 0 ≤ mo_seenMany.toInt ∧ mo_seenMany.toInt ≤ 6 from by omega) (show 0 ≤ mo_keptMany.toInt ∧ mo_keptMany.toInt ≤ 8 from by omega) (show 0 ≤ mo_keptSecond.toInt ∧ mo_keptSecond.toInt ≤ 8 from by omega) (show 0 ≤ mo_keptSeen.toInt ∧ mo_keptSeen.toInt ≤ 6 from by omega) (show (-1) ≤ (-1) ∧ (-1) ≤ 7 from by omega)) tw_985 tw_982 tw_984 tw_33 tw_71 rfl rfl (by decide +kernel) ⟨Nat.le_of_ble_eq_true rfl, Nat.le_of_ble_eq_true rfl⟩ hK hP hD hS hA [0, 1] [] rfl rfl rfl rfl (by decide) 0 (ci := 12) rfl rfl rfl hl.1 rfl (Nat.le_of_ble_eq_true rfl) dX12_widest_7 ⟨Nat.le_of_ble_eq_true rfl, Nat.le_of_ble_eq_true rfl⟩ (fun r_1 u_2 H locs hw_3 hP hD hS => ?_)
  refine W.widen (k := 0) (n := 0) (by decide) (by decide) ?_
  obtain ⟨hw_3, k_4, k_5, k_6⟩ := hw_3
  have hw_3 : r_1 = (fn_X12_nextIn mo_many mheights_a (-1) a) := hw_3
  subst hw_3
  have k_4 : ((-1) ≤ (fn_X12_nextIn mo_many mheights_a (-1) a).toInt ∧ (fn_X12_nextIn mo_many mheights_a (-1) a).toInt ≤ 7) := k_4
  have k_5 : ((fn_X12_nextIn mo_many mheights_a (-1) a).toInt < mo_many.toInt) := k_5
  have k_6 : ((fn_X12_nextIn mo_many mheights_a (-1) a).toInt = -1 ∨ (-1) < (fn_X12_nextIn mo_many mheights_a (-1) a).toInt) := k_6
  have hP : va_P D classes [(mo, .inr (12, [.ref mpage, .int mo_pageMany, .int mo_law, .int mo_many, .int mo_asked, .int mo_looksAll, .int mo_changes, .int mo_rowsRead, .ref mkeys, .ref mvalues, .ref mheights, .ref mheats, .int mo_secondMany, .ref msecondKeys, .ref msecondValues, .ref msecondHeights, .ref msecondHeats, .int mo_foundAt, .int mo_foundLooks, .int mo_foundLane, .int mo_bestsDone, .ref msaved, .ref mbestHeights, .int mo_seenMany, .ref msights, .ref mby, .int mo_seedNow, .int mo_keptRow, .int mo_keptMany, .int mo_keptSecond, .int mo_keptAsked, .int mo_keptLooks, .int mo_keptChanges, .int mo_keptSeen, .ref mkeptKeys, .ref mkeptValues, .ref mkeptHeights, .ref mkeptHeats, .ref mkeptKeys2, .ref mkeptValues2, .ref mkeptHeights2, .ref mkeptHeats2, .ref mkeptSights, .long mo_hash])), (mheights, .inl (cy, 8, .inl mheights_a))] H := hP
  have hD : va_D A [(mo, .inr (12, [.ref mpage, .int mo_pageMany, .int mo_law, .int mo_many, .int mo_asked, .int mo_looksAll, .int mo_changes, .int mo_rowsRead, .ref mkeys, .ref mvalues, .ref mheights, .ref mheats, .int mo_secondMany, .ref msecondKeys, .ref msecondValues, .ref msecondHeights, .ref msecondHeats, .int mo_foundAt, .int mo_foundLooks, .int mo_foundLane, .int mo_bestsDone, .ref msaved, .ref mbestHeights, .int mo_seenMany, .ref msights, .ref mby, .int mo_seedNow, .int mo_keptRow, .int mo_keptMany, .int mo_keptSecond, .int mo_keptAsked, .int mo_keptLooks, .int mo_keptChanges, .int mo_keptSeen, .ref mkeptKeys, .ref mkeptValues, .ref mkeptHeights, .ref mkeptHeats, .ref mkeptKeys2, .ref mkeptValues2, .ref mkeptHeights2, .ref mkeptHeats2, .ref mkeptSights, .long mo_hash])), (mheights, .inl (cy, 8, .inl mheights_a))] := hD
  refine lv_istore (lv' := [(4, .int (fn_X12_nextIn mo_many mheights_a (-1) a)), (3, .int (-1)), (2, .int (-1)), (0, .ref mo), (1, .int a)]) hx hb dX12_widest_10 hl (by decide) rfl (fun ls hl => ?_)
  have hlp_12 : ∀ (fu_12 : Nat) (x2_12 : Int32) (x3_12 : Int32) (x4_12 : Int32) (H : Heap) (locs : List Loc) (ls : Array Slot), ((-1) ≤ x3_12.toInt ∧ x3_12.toInt ≤ 7) → ((-1) ≤ x4_12.toInt ∧ x4_12.toInt ≤ 7) → (x4_12.toInt = -1 ∨ x3_12.toInt < x4_12.toInt) → 8 - x3_12.toInt < (fu_12 : Int) → ((fn_X12_widest mo_many mheights_a a) = (pm2 (lp_X12_widest_12 mo_many mheights_a a fu_12 x2_12 x3_12 x4_12) (fun x2_12 t_ => (pm2 (t_) (fun x3_12 x4_12 => x2_12))))) → va_P D classes [(mo, .inr (12, [.ref mpage, .int mo_pageMany, .int mo_law, .int mo_many, .int mo_asked, .int mo_looksAll, .int mo_changes, .int mo_rowsRead, .ref mkeys, .ref mvalues, .ref mheights, .ref mheats, .int mo_secondMany, .ref msecondKeys, .ref msecondValues, .ref msecondHeights, .ref msecondHeats, .int mo_foundAt, .int mo_foundLooks, .int mo_foundLane, .int mo_bestsDone, .ref msaved, .ref mbestHeights, .int mo_seenMany, .ref msights, .ref mby, .int mo_seedNow, .int mo_keptRow, .int mo_keptMany, .int mo_keptSecond, .int mo_keptAsked, .int mo_keptLooks, .int mo_keptChanges, .int mo_keptSeen, .ref mkeptKeys, .ref mkeptValues, .ref mkeptHeights, .ref mkeptHeats, .ref mkeptKeys2, .ref mkeptValues2, .ref mkeptHeights2, .ref mkeptHeats2, .ref mkeptSights, .long mo_hash])), (mheights, .inl (cy, 8, .inl mheights_a))] H → va_D A [(mo, .inr (12, [.ref mpage, .int mo_pageMany, .int mo_law, .int mo_many, .int mo_asked, .int mo_looksAll, .int mo_changes, .int mo_rowsRead, .ref mkeys, .ref mvalues, .ref mheights, .ref mheats, .int mo_secondMany, .ref msecondKeys, .ref msecondValues, .ref msecondHeights, .ref msecondHeats, .int mo_foundAt, .int mo_foundLooks, .int mo_foundLane, .int mo_bestsDone, .ref msaved, .ref mbestHeights, .int mo_seenMany, .ref msights, .ref mby, .int mo_seedNow, .int mo_keptRow, .int mo_keptMany, .int mo_keptSecond, .int mo_keptAsked, .int mo_keptLooks, .int mo_keptChanges, .int mo_keptSeen, .ref mkeptKeys, .ref mkeptValues, .ref mkeptHeights, .ref mkeptHeats, .ref mkeptKeys2, .ref mkeptValues2, .ref mkeptHeights2, .ref mkeptHeats2, .ref mkeptSights, .long mo_hash])), (mheights, .inl (cy, 8, .inl mheights_a))] → va_S A s.heap H locs → lv_has ls 5 [(4, .int x4_12), (3, .int x3_12), (2, .int x2_12), (0, .ref mo), (1, .int a)] → W p l e { frames := 1, cells := 0, slots := 0, locals := 23 } s m args below meth c H locs 0 0 Q (F0 m 12 ls []) := by
    intro fu_12
    induction fu_12 with
    | zero =>
      intro x2_12 x3_12 x4_12 H locs ls hi_12_0 hi_12_1 hi_12_2 hm hF hP hD hS hl
      exfalso; omega
    | succ fu_12 ih_12 =>
      intro x2_12 x3_12 x4_12 H locs ls hi_12_0 hi_12_1 hi_12_2 hm hF hP hD hS hl
      rw [lp_X12_widest_12] at hF
      refine lv_iload hx hb dX12_widest_12 (lv_at hl 0 rfl) ?_
      refine lv_iconst (v := (-1)) hx hb dX12_widest_14 (by decide) ?_
      refine lv_icmp_eq (tgt := 49) hx hb dX12_widest_15 (by decide) (fun c_7 => ?_) (fun c_7 => ?_)
      · have k_7 : x4_12.toInt = (-1) := wk_eq c_7
        rw [if_pos c_7] at hF
        rw [pm2_mk x2_12 (x3_12, x4_12), pm2_mk x3_12 x4_12] at hF
        refine lv_iload_n hx hb dX12_widest_49 rfl (lv_at hl 2 rfl) ?_
        refine W.widen (k := 0) (n := 0) (by decide) (by decide) ?_
        exact hret x2_12 () _ _ _ 50 (wk_sub9 (is := [0, 1]) hP rfl) (hD.sub [0, 1] rfl rfl) hS dX12_widest_50 hF.symm
      · have k_7 : ¬ x4_12.toInt = (-1) := wk_neq c_7
        rw [if_neg c_7] at hF
        refine lv_iload hx hb dX12_widest_18 (lv_at hl 0 rfl) ?_
        refine lv_iload_n hx hb dX12_widest_20 rfl (lv_at hl 1 rfl) ?_
        refine lv_isub hx hb dX12_widest_21 ?_
        have k_8 : (x4_12 - x3_12).toInt = x4_12.toInt - x3_12.toInt := wk_sub x4_12.toInt x3_12.toInt rfl rfl (by omega) (by omega)
        refine lv_iload_n hx hb dX12_widest_22 rfl (lv_at hl 2 rfl) ?_
        refine lv_icmp_le (tgt := 33) hx hb dX12_widest_23 (by decide) (fun c_9 => ?_) (fun c_9 => ?_)
        · have k_9 : (x4_12 - x3_12).toInt ≤ x2_12.toInt := wk_le c_9
          rw [if_pos c_9] at hF
          refine lv_iload_n hx hb dX12_widest_33 rfl (lv_at hl 2 rfl) ?_
          refine lv_istore_n (lv' := [(2, .int x2_12), (4, .int x4_12), (3, .int x3_12), (0, .ref mo), (1, .int a)]) hx hb dX12_widest_34 rfl hl (by decide) rfl (fun ls hl => ?_)
          refine lv_iload hx hb dX12_widest_35 (lv_at hl 1 rfl) ?_
          refine lv_istore_n (lv' := [(3, .int x4_12), (2, .int x2_12), (4, .int x4_12), (0, .ref mo), (1, .int a)]) hx hb dX12_widest_37 rfl hl (by decide) rfl (fun ls hl => ?_)
          refine lv_aload_n hx hb dX12_widest_38 rfl (lv_at hl 3 rfl) ?_
          refine lv_iload_n hx hb dX12_widest_39 rfl (lv_at hl 0 rfl) ?_
          refine lv_iload_n hx hb dX12_widest_40 rfl (lv_at hl 4 rfl) ?_
          refine wk_iV (As := [.int x4_12, .int a]) (rest := []) (wc := [(mo, .inr (12, [.ref mpage, .int mo_pageMany, .int mo_law, .int mo_many, .int mo_asked, .int mo_looksAll, .int mo_changes, .int mo_rowsRead, .ref mkeys, .ref mvalues, .ref mheights, .ref mheats, .int mo_secondMany, .ref msecondKeys, .ref msecondValues, .ref msecondHeights, .ref msecondHeats, .int mo_foundAt, .int mo_foundLooks, .int mo_foundLane, .int mo_bestsDone, .ref msaved, .ref mbestHeights, .int mo_seenMany, .ref msights, .ref mby, .int mo_seedNow, .int mo_keptRow, .int mo_keptMany, .int mo_keptSecond, .int mo_keptAsked, .int mo_keptLooks, .int mo_keptChanges, .int mo_keptSeen, .ref mkeptKeys, .ref mkeptValues, .ref mkeptHeights, .ref mkeptHeats, .ref mkeptKeys2, .ref mkeptValues2, .ref mkeptHeights2, .ref mkeptHeats2, .ref mkeptSights, .long mo_hash])), (mheights, .inl (cy, 8, .inl mheights_a))]) (wr := []) (n := 2) ⟨hx, hb, hml, hown, htb⟩ (c_X12_nextIn l D cy mo mpage mkeys mvalues mheights mheats msecondKeys msecondValues msecondHeights msecondHeats msaved mbestHeights msights mby mkeptKeys mkeptValues mkeptHeights mkeptHeats mkeptKeys2 mkeptValues2 mkeptHeights2 mkeptHeats2 mkeptSights mo_pageMany mo_law mo_many mo_asked mo_looksAll mo_changes mo_rowsRead mo_secondMany mo_foundAt mo_foundLooks mo_foundLane mo_bestsDone mo_seenMany mo_seedNow mo_keptRow mo_keptMany mo_keptSecond mo_keptAsked mo_keptLooks mo_keptChanges mo_keptSeen mo_hash mheights_a x4_12 a (show 0 ≤ mo_pageMany.toInt ∧ mo_pageMany.toInt ≤ 44 from by omega) (show 0 ≤ mo_many.toInt ∧ mo_many.toInt ≤ 8 from by omega) (show 0 ≤ mo_secondMany.toInt ∧ mo_secondMany.toInt ≤ 8 from by omega) (show (-1) ≤ mo_foundAt.toInt ∧ mo_foundAt.toInt ≤ 7 from by omega) (show 0 ≤ mo_seenMany.toInt ∧ mo_seenMany.toInt ≤ 6 from by omega) (show 0 ≤ mo_keptMany.toInt ∧ mo_keptMany.toInt ≤ 8 from by omega) (show 0 ≤ mo_keptSecond.toInt ∧ mo_keptSecond.toInt ≤ 8 from by omega) (show 0 ≤ mo_keptSeen.toInt ∧ mo_keptSeen.toInt ≤ 6 from by omega) (show (-1) ≤ x4_12.toInt ∧ x4_12.toInt ≤ 7 from by omega)) tw_985 tw_982 tw_984 tw_33 tw_71 rfl rfl (by decide +kernel) ⟨Nat.le_of_ble_eq_true rfl, Nat.le_of_ble_eq_true rfl⟩ hK hP hD hS hA [0, 1] [] rfl rfl rfl rfl (by decide) 0 (ci := 12) rfl rfl rfl hl.1 rfl (Nat.le_of_ble_eq_true rfl) dX12_widest_41 ⟨Nat.le_of_ble_eq_true rfl, Nat.le_of_ble_eq_true rfl⟩ (fun r_10 u_11 H locs hw_12 hP hD hS => ?_)
          refine W.widen (k := 0) (n := 0) (by decide) (by decide) ?_
          obtain ⟨hw_12, k_13, k_14, k_15⟩ := hw_12
          have hw_12 : r_10 = (fn_X12_nextIn mo_many mheights_a x4_12 a) := hw_12
          subst hw_12
          have k_13 : ((-1) ≤ (fn_X12_nextIn mo_many mheights_a x4_12 a).toInt ∧ (fn_X12_nextIn mo_many mheights_a x4_12 a).toInt ≤ 7) := k_13
          have k_14 : ((fn_X12_nextIn mo_many mheights_a x4_12 a).toInt < mo_many.toInt) := k_14
          have k_15 : ((fn_X12_nextIn mo_many mheights_a x4_12 a).toInt = -1 ∨ x4_12.toInt < (fn_X12_nextIn mo_many mheights_a x4_12 a).toInt) := k_15
          have hP : va_P D classes [(mo, .inr (12, [.ref mpage, .int mo_pageMany, .int mo_law, .int mo_many, .int mo_asked, .int mo_looksAll, .int mo_changes, .int mo_rowsRead, .ref mkeys, .ref mvalues, .ref mheights, .ref mheats, .int mo_secondMany, .ref msecondKeys, .ref msecondValues, .ref msecondHeights, .ref msecondHeats, .int mo_foundAt, .int mo_foundLooks, .int mo_foundLane, .int mo_bestsDone, .ref msaved, .ref mbestHeights, .int mo_seenMany, .ref msights, .ref mby, .int mo_seedNow, .int mo_keptRow, .int mo_keptMany, .int mo_keptSecond, .int mo_keptAsked, .int mo_keptLooks, .int mo_keptChanges, .int mo_keptSeen, .ref mkeptKeys, .ref mkeptValues, .ref mkeptHeights, .ref mkeptHeats, .ref mkeptKeys2, .ref mkeptValues2, .ref mkeptHeights2, .ref mkeptHeats2, .ref mkeptSights, .long mo_hash])), (mheights, .inl (cy, 8, .inl mheights_a))] H := hP
          have hD : va_D A [(mo, .inr (12, [.ref mpage, .int mo_pageMany, .int mo_law, .int mo_many, .int mo_asked, .int mo_looksAll, .int mo_changes, .int mo_rowsRead, .ref mkeys, .ref mvalues, .ref mheights, .ref mheats, .int mo_secondMany, .ref msecondKeys, .ref msecondValues, .ref msecondHeights, .ref msecondHeats, .int mo_foundAt, .int mo_foundLooks, .int mo_foundLane, .int mo_bestsDone, .ref msaved, .ref mbestHeights, .int mo_seenMany, .ref msights, .ref mby, .int mo_seedNow, .int mo_keptRow, .int mo_keptMany, .int mo_keptSecond, .int mo_keptAsked, .int mo_keptLooks, .int mo_keptChanges, .int mo_keptSeen, .ref mkeptKeys, .ref mkeptValues, .ref mkeptHeights, .ref mkeptHeats, .ref mkeptKeys2, .ref mkeptValues2, .ref mkeptHeights2, .ref mkeptHeats2, .ref mkeptSights, .long mo_hash])), (mheights, .inl (cy, 8, .inl mheights_a))] := hD
          refine lv_istore (lv' := [(4, .int (fn_X12_nextIn mo_many mheights_a x4_12 a)), (3, .int x4_12), (2, .int x2_12), (0, .ref mo), (1, .int a)]) hx hb dX12_widest_44 hl (by decide) rfl (fun ls hl => ?_)
          refine lv_goto (tgt := 12) hx hb dX12_widest_46 (by decide) ?_
          exact ih_12 x2_12 x4_12 (fn_X12_nextIn mo_many mheights_a x4_12 a) _ _ _ (show (-1) ≤ x4_12.toInt ∧ x4_12.toInt ≤ 7 from by omega) (show (-1) ≤ (fn_X12_nextIn mo_many mheights_a x4_12 a).toInt ∧ (fn_X12_nextIn mo_many mheights_a x4_12 a).toInt ≤ 7 from by omega) (show (fn_X12_nextIn mo_many mheights_a x4_12 a).toInt = -1 ∨ x4_12.toInt < (fn_X12_nextIn mo_many mheights_a x4_12 a).toInt from by omega) (show 8 - x4_12.toInt < ((fu_12 : Nat) : Int) from by omega) hF hP hD hS (lv_sub hl [0, 1, 2, 3, 4] rfl)
        · have k_9 : ¬ (x4_12 - x3_12).toInt ≤ x2_12.toInt := wk_nle c_9
          rw [if_neg c_9] at hF
          refine lv_iload hx hb dX12_widest_26 (lv_at hl 0 rfl) ?_
          refine lv_iload_n hx hb dX12_widest_28 rfl (lv_at hl 1 rfl) ?_
          refine lv_isub hx hb dX12_widest_29 ?_
          have k_16 : (x4_12 - x3_12).toInt = x4_12.toInt - x3_12.toInt := wk_sub x4_12.toInt x3_12.toInt rfl rfl (by omega) (by omega)
          refine lv_goto (tgt := 34) hx hb dX12_widest_30 (by decide) ?_
          refine lv_istore_n (lv' := [(2, .int (x4_12 - x3_12)), (4, .int x4_12), (3, .int x3_12), (0, .ref mo), (1, .int a)]) hx hb dX12_widest_34 rfl hl (by decide) rfl (fun ls hl => ?_)
          refine lv_iload hx hb dX12_widest_35 (lv_at hl 1 rfl) ?_
          refine lv_istore_n (lv' := [(3, .int x4_12), (2, .int (x4_12 - x3_12)), (4, .int x4_12), (0, .ref mo), (1, .int a)]) hx hb dX12_widest_37 rfl hl (by decide) rfl (fun ls hl => ?_)
          refine lv_aload_n hx hb dX12_widest_38 rfl (lv_at hl 3 rfl) ?_
          refine lv_iload_n hx hb dX12_widest_39 rfl (lv_at hl 0 rfl) ?_
          refine lv_iload_n hx hb dX12_widest_40 rfl (lv_at hl 4 rfl) ?_
          refine wk_iV (As := [.int x4_12, .int a]) (rest := []) (wc := [(mo, .inr (12, [.ref mpage, .int mo_pageMany, .int mo_law, .int mo_many, .int mo_asked, .int mo_looksAll, .int mo_changes, .int mo_rowsRead, .ref mkeys, .ref mvalues, .ref mheights, .ref mheats, .int mo_secondMany, .ref msecondKeys, .ref msecondValues, .ref msecondHeights, .ref msecondHeats, .int mo_foundAt, .int mo_foundLooks, .int mo_foundLane, .int mo_bestsDone, .ref msaved, .ref mbestHeights, .int mo_seenMany, .ref msights, .ref mby, .int mo_seedNow, .int mo_keptRow, .int mo_keptMany, .int mo_keptSecond, .int mo_keptAsked, .int mo_keptLooks, .int mo_keptChanges, .int mo_keptSeen, .ref mkeptKeys, .ref mkeptValues, .ref mkeptHeights, .ref mkeptHeats, .ref mkeptKeys2, .ref mkeptValues2, .ref mkeptHeights2, .ref mkeptHeats2, .ref mkeptSights, .long mo_hash])), (mheights, .inl (cy, 8, .inl mheights_a))]) (wr := []) (n := 2) ⟨hx, hb, hml, hown, htb⟩ (c_X12_nextIn l D cy mo mpage mkeys mvalues mheights mheats msecondKeys msecondValues msecondHeights msecondHeats msaved mbestHeights msights mby mkeptKeys mkeptValues mkeptHeights mkeptHeats mkeptKeys2 mkeptValues2 mkeptHeights2 mkeptHeats2 mkeptSights mo_pageMany mo_law mo_many mo_asked mo_looksAll mo_changes mo_rowsRead mo_secondMany mo_foundAt mo_foundLooks mo_foundLane mo_bestsDone mo_seenMany mo_seedNow mo_keptRow mo_keptMany mo_keptSecond mo_keptAsked mo_keptLooks mo_keptChanges mo_keptSeen mo_hash mheights_a x4_12 a (show 0 ≤ mo_pageMany.toInt ∧ mo_pageMany.toInt ≤ 44 from by omega) (show 0 ≤ mo_many.toInt ∧ mo_many.toInt ≤ 8 from by omega) (show 0 ≤ mo_secondMany.toInt ∧ mo_secondMany.toInt ≤ 8 from by omega) (show (-1) ≤ mo_foundAt.toInt ∧ mo_foundAt.toInt ≤ 7 from by omega) (show 0 ≤ mo_seenMany.toInt ∧ mo_seenMany.toInt ≤ 6 from by omega) (show 0 ≤ mo_keptMany.toInt ∧ mo_keptMany.toInt ≤ 8 from by omega) (show 0 ≤ mo_keptSecond.toInt ∧ mo_keptSecond.toInt ≤ 8 from by omega) (show 0 ≤ mo_keptSeen.toInt ∧ mo_keptSeen.toInt ≤ 6 from by omega) (show (-1) ≤ x4_12.toInt ∧ x4_12.toInt ≤ 7 from by omega)) tw_985 tw_982 tw_984 tw_33 tw_71 rfl rfl (by decide +kernel) ⟨Nat.le_of_ble_eq_true rfl, Nat.le_of_ble_eq_true rfl⟩ hK hP hD hS hA [0, 1] [] rfl rfl rfl rfl (by decide) 0 (ci := 12) rfl rfl rfl hl.1 rfl (Nat.le_of_ble_eq_true rfl) dX12_widest_41 ⟨Nat.le_of_ble_eq_true rfl, Nat.le_of_ble_eq_true rfl⟩ (fun r_17 u_18 H locs hw_19 hP hD hS => ?_)
          refine W.widen (k := 0) (n := 0) (by decide) (by decide) ?_
          obtain ⟨hw_19, k_20, k_21, k_22⟩ := hw_19
          have hw_19 : r_17 = (fn_X12_nextIn mo_many mheights_a x4_12 a) := hw_19
          subst hw_19
          have k_20 : ((-1) ≤ (fn_X12_nextIn mo_many mheights_a x4_12 a).toInt ∧ (fn_X12_nextIn mo_many mheights_a x4_12 a).toInt ≤ 7) := k_20
          have k_21 : ((fn_X12_nextIn mo_many mheights_a x4_12 a).toInt < mo_many.toInt) := k_21
          have k_22 : ((fn_X12_nextIn mo_many mheights_a x4_12 a).toInt = -1 ∨ x4_12.toInt < (fn_X12_nextIn mo_many mheights_a x4_12 a).toInt) := k_22
          have hP : va_P D classes [(mo, .inr (12, [.ref mpage, .int mo_pageMany, .int mo_law, .int mo_many, .int mo_asked, .int mo_looksAll, .int mo_changes, .int mo_rowsRead, .ref mkeys, .ref mvalues, .ref mheights, .ref mheats, .int mo_secondMany, .ref msecondKeys, .ref msecondValues, .ref msecondHeights, .ref msecondHeats, .int mo_foundAt, .int mo_foundLooks, .int mo_foundLane, .int mo_bestsDone, .ref msaved, .ref mbestHeights, .int mo_seenMany, .ref msights, .ref mby, .int mo_seedNow, .int mo_keptRow, .int mo_keptMany, .int mo_keptSecond, .int mo_keptAsked, .int mo_keptLooks, .int mo_keptChanges, .int mo_keptSeen, .ref mkeptKeys, .ref mkeptValues, .ref mkeptHeights, .ref mkeptHeats, .ref mkeptKeys2, .ref mkeptValues2, .ref mkeptHeights2, .ref mkeptHeats2, .ref mkeptSights, .long mo_hash])), (mheights, .inl (cy, 8, .inl mheights_a))] H := hP
          have hD : va_D A [(mo, .inr (12, [.ref mpage, .int mo_pageMany, .int mo_law, .int mo_many, .int mo_asked, .int mo_looksAll, .int mo_changes, .int mo_rowsRead, .ref mkeys, .ref mvalues, .ref mheights, .ref mheats, .int mo_secondMany, .ref msecondKeys, .ref msecondValues, .ref msecondHeights, .ref msecondHeats, .int mo_foundAt, .int mo_foundLooks, .int mo_foundLane, .int mo_bestsDone, .ref msaved, .ref mbestHeights, .int mo_seenMany, .ref msights, .ref mby, .int mo_seedNow, .int mo_keptRow, .int mo_keptMany, .int mo_keptSecond, .int mo_keptAsked, .int mo_keptLooks, .int mo_keptChanges, .int mo_keptSeen, .ref mkeptKeys, .ref mkeptValues, .ref mkeptHeights, .ref mkeptHeats, .ref mkeptKeys2, .ref mkeptValues2, .ref mkeptHeights2, .ref mkeptHeats2, .ref mkeptSights, .long mo_hash])), (mheights, .inl (cy, 8, .inl mheights_a))] := hD
          refine lv_istore (lv' := [(4, .int (fn_X12_nextIn mo_many mheights_a x4_12 a)), (3, .int x4_12), (2, .int (x4_12 - x3_12)), (0, .ref mo), (1, .int a)]) hx hb dX12_widest_44 hl (by decide) rfl (fun ls hl => ?_)
          refine lv_goto (tgt := 12) hx hb dX12_widest_46 (by decide) ?_
          exact ih_12 (x4_12 - x3_12) x4_12 (fn_X12_nextIn mo_many mheights_a x4_12 a) _ _ _ (show (-1) ≤ x4_12.toInt ∧ x4_12.toInt ≤ 7 from by omega) (show (-1) ≤ (fn_X12_nextIn mo_many mheights_a x4_12 a).toInt ∧ (fn_X12_nextIn mo_many mheights_a x4_12 a).toInt ≤ 7 from by omega) (show (fn_X12_nextIn mo_many mheights_a x4_12 a).toInt = -1 ∨ x4_12.toInt < (fn_X12_nextIn mo_many mheights_a x4_12 a).toInt from by omega) (show 8 - x4_12.toInt < ((fu_12 : Nat) : Int) from by omega) hF hP hD hS (lv_sub hl [0, 1, 2, 3, 4] rfl)
  exact hlp_12 12 (-1) (-1) (fn_X12_nextIn mo_many mheights_a (-1) a) _ _ _ (show (-1) ≤ (-1) ∧ (-1) ≤ 7 from by omega) (show (-1) ≤ (fn_X12_nextIn mo_many mheights_a (-1) a).toInt ∧ (fn_X12_nextIn mo_many mheights_a (-1) a).toInt ≤ 7 from by omega) (show (fn_X12_nextIn mo_many mheights_a (-1) a).toInt = -1 ∨ (-1) < (fn_X12_nextIn mo_many mheights_a (-1) a).toInt from by omega) (show 8 - (-1) < ((12 : Nat) : Int) from by omega) hF hP hD hS (lv_sub hl [0, 1, 2, 3, 4] rfl)
def fn_X12_tellLane (mo_many : Int32) (mvalues_a : Nat → Int32) (mheights_a : Nat → Int32) (a : Int32) (b : Int32) : Int32 := (if b = 0 then (fn_X12_inLane mo_many mheights_a a) else (if b = 1 then (fn_X12_widthOf mo_many mheights_a (-1) a) else (if b = 2 then (fn_X12_weightOf mo_many mvalues_a mheights_a (-1) a) else (if b = 3 then (fn_X12_widest mo_many mheights_a a) else (-102)))))
theorem dX12_tellLane_0 : decode cX12_tellLane 0 = .ok (.iload_n 2, 1) := by decide +kernel
theorem dX12_tellLane_1 : decode cX12_tellLane 1 = .ok (.tableswitch 57 0 3 #[31, 37, 44, 51], 31) := by decide +kernel
theorem dX12_tellLane_32 : decode cX12_tellLane 32 = .ok (.aload_n 0, 1) := by decide +kernel
theorem dX12_tellLane_33 : decode cX12_tellLane 33 = .ok (.iload_n 1, 1) := by decide +kernel
theorem dX12_tellLane_34 : decode cX12_tellLane 34 = .ok (.invokevirtual 226, 3) := by decide +kernel
theorem dX12_tellLane_37 : decode cX12_tellLane 37 = .ok (.ireturn, 1) := by decide +kernel
theorem dX12_tellLane_38 : decode cX12_tellLane 38 = .ok (.aload_n 0, 1) := by decide +kernel
theorem dX12_tellLane_39 : decode cX12_tellLane 39 = .ok (.iconst (-1), 1) := by decide +kernel
theorem dX12_tellLane_40 : decode cX12_tellLane 40 = .ok (.iload_n 1, 1) := by decide +kernel
theorem dX12_tellLane_41 : decode cX12_tellLane 41 = .ok (.invokevirtual 204, 3) := by decide +kernel
theorem dX12_tellLane_44 : decode cX12_tellLane 44 = .ok (.ireturn, 1) := by decide +kernel
theorem dX12_tellLane_45 : decode cX12_tellLane 45 = .ok (.aload_n 0, 1) := by decide +kernel
theorem dX12_tellLane_46 : decode cX12_tellLane 46 = .ok (.iconst (-1), 1) := by decide +kernel
theorem dX12_tellLane_47 : decode cX12_tellLane 47 = .ok (.iload_n 1, 1) := by decide +kernel
theorem dX12_tellLane_48 : decode cX12_tellLane 48 = .ok (.invokevirtual 211, 3) := by decide +kernel
theorem dX12_tellLane_51 : decode cX12_tellLane 51 = .ok (.ireturn, 1) := by decide +kernel
theorem dX12_tellLane_52 : decode cX12_tellLane 52 = .ok (.aload_n 0, 1) := by decide +kernel
theorem dX12_tellLane_53 : decode cX12_tellLane 53 = .ok (.iload_n 1, 1) := by decide +kernel
theorem dX12_tellLane_54 : decode cX12_tellLane 54 = .ok (.invokevirtual 229, 3) := by decide +kernel
theorem dX12_tellLane_57 : decode cX12_tellLane 57 = .ok (.ireturn, 1) := by decide +kernel
theorem dX12_tellLane_58 : decode cX12_tellLane 58 = .ok (.bipush (-102), 2) := by decide +kernel
theorem dX12_tellLane_60 : decode cX12_tellLane 60 = .ok (.ireturn, 1) := by decide +kernel
set_option maxHeartbeats 4000000 in
set_option maxRecDepth 100000 in
theorem c_X12_tellLane (l : Launch) (D : va_G) (cy : ClassId) (mo mpage mkeys mvalues mheights mheats msecondKeys msecondValues msecondHeights msecondHeats msaved mbestHeights msights mby mkeptKeys mkeptValues mkeptHeights mkeptHeats mkeptKeys2 mkeptValues2 mkeptHeights2 mkeptHeats2 mkeptSights : Nat) (mo_pageMany : Int32) (mo_law : Int32) (mo_many : Int32) (mo_asked : Int32) (mo_looksAll : Int32) (mo_changes : Int32) (mo_rowsRead : Int32) (mo_secondMany : Int32) (mo_foundAt : Int32) (mo_foundLooks : Int32) (mo_foundLane : Int32) (mo_bestsDone : Int32) (mo_seenMany : Int32) (mo_seedNow : Int32) (mo_keptRow : Int32) (mo_keptMany : Int32) (mo_keptSecond : Int32) (mo_keptAsked : Int32) (mo_keptLooks : Int32) (mo_keptChanges : Int32) (mo_keptSeen : Int32) (mo_hash : Int64) (mvalues_a : Nat → Int32) (mheights_a : Nat → Int32) (a : Int32) (b : Int32) (g_0 : 0 ≤ mo_pageMany.toInt ∧ mo_pageMany.toInt ≤ 44) (g_1 : 0 ≤ mo_many.toInt ∧ mo_many.toInt ≤ 8) (g_2 : 0 ≤ mo_secondMany.toInt ∧ mo_secondMany.toInt ≤ 8) (g_3 : (-1) ≤ mo_foundAt.toInt ∧ mo_foundAt.toInt ≤ 7) (g_4 : 0 ≤ mo_seenMany.toInt ∧ mo_seenMany.toInt ≤ 6) (g_5 : 0 ≤ mo_keptMany.toInt ∧ mo_keptMany.toInt ≤ 8) (g_6 : 0 ≤ mo_keptSecond.toInt ∧ mo_keptSecond.toInt ≤ 8) (g_7 : 0 ≤ mo_keptSeen.toInt ∧ mo_keptSeen.toInt ≤ 6) : wk_Ci l yX12_tellLane cX12_tellLane 3 (some .int) { frames := 2, cells := 0, slots := 0, locals := 48 } D cy [.ref mo, .int a, .int b] [(mo, .inr (12, [.ref mpage, .int mo_pageMany, .int mo_law, .int mo_many, .int mo_asked, .int mo_looksAll, .int mo_changes, .int mo_rowsRead, .ref mkeys, .ref mvalues, .ref mheights, .ref mheats, .int mo_secondMany, .ref msecondKeys, .ref msecondValues, .ref msecondHeights, .ref msecondHeats, .int mo_foundAt, .int mo_foundLooks, .int mo_foundLane, .int mo_bestsDone, .ref msaved, .ref mbestHeights, .int mo_seenMany, .ref msights, .ref mby, .int mo_seedNow, .int mo_keptRow, .int mo_keptMany, .int mo_keptSecond, .int mo_keptAsked, .int mo_keptLooks, .int mo_keptChanges, .int mo_keptSeen, .ref mkeptKeys, .ref mkeptValues, .ref mkeptHeights, .ref mkeptHeats, .ref mkeptKeys2, .ref mkeptValues2, .ref mkeptHeights2, .ref mkeptHeats2, .ref mkeptSights, .long mo_hash])), (mvalues, .inl (cy, 8, .inl mvalues_a)), (mheights, .inl (cy, 8, .inl mheights_a))] 0 0 (fun (r : Int32) (u : Unit) => r = (fn_X12_tellLane mo_many mvalues_a mheights_a a b)) (fun u => [(mo, .inr (12, [.ref mpage, .int mo_pageMany, .int mo_law, .int mo_many, .int mo_asked, .int mo_looksAll, .int mo_changes, .int mo_rowsRead, .ref mkeys, .ref mvalues, .ref mheights, .ref mheats, .int mo_secondMany, .ref msecondKeys, .ref msecondValues, .ref msecondHeights, .ref msecondHeats, .int mo_foundAt, .int mo_foundLooks, .int mo_foundLane, .int mo_bestsDone, .ref msaved, .ref mbestHeights, .int mo_seenMany, .ref msights, .ref mby, .int mo_seedNow, .int mo_keptRow, .int mo_keptMany, .int mo_keptSecond, .int mo_keptAsked, .int mo_keptLooks, .int mo_keptChanges, .int mo_keptSeen, .ref mkeptKeys, .ref mkeptValues, .ref mkeptHeights, .ref mkeptHeats, .ref mkeptKeys2, .ref mkeptValues2, .ref mkeptHeights2, .ref mkeptHeats2, .ref mkeptSights, .long mo_hash])), (mvalues, .inl (cy, 8, .inl mvalues_a)), (mheights, .inl (cy, 8, .inl mheights_a))]) := by
  refine wk_mk2Ci (by decide) (Nat.le_of_ble_eq_true rfl) ?_
  intro p e s m args below meth c A ls Q B hA hK hP hD hS hl hret
  obtain ⟨hx, hb, hr, hlocks, hml, hown, htb, hin⟩ := B
  have hl : lv_has ls 3 [(0, .ref mo), (1, .int a), (2, .int b)] := hl
  have hF : (fn_X12_tellLane mo_many mvalues_a mheights_a a b) = (fn_X12_tellLane mo_many mvalues_a mheights_a a b) := rfl
  conv at hF => rhs; unfold fn_X12_tellLane
  refine lv_iload_n hx hb dX12_tellLane_0 rfl (lv_at hl 2 rfl) ?_
  by_cases c_1 : b = 0
  · refine wk_toi c_1 ?_
    rw [if_pos c_1] at hF
    have k_1 : b.toInt = 0 := wk_eq c_1
    refine lv_tableIn (off := 31) (tgt := 32) hx hb dX12_tellLane_1 (by decide) (by decide) (by decide) (by decide) ?_
    refine lv_aload_n hx hb dX12_tellLane_32 rfl (lv_at hl 0 rfl) ?_
    refine lv_iload_n hx hb dX12_tellLane_33 rfl (lv_at hl 1 rfl) ?_
    refine wk_iV (As := [.int a]) (rest := []) (wc := [(mo, .inr (12, [.ref mpage, .int mo_pageMany, .int mo_law, .int mo_many, .int mo_asked, .int mo_looksAll, .int mo_changes, .int mo_rowsRead, .ref mkeys, .ref mvalues, .ref mheights, .ref mheats, .int mo_secondMany, .ref msecondKeys, .ref msecondValues, .ref msecondHeights, .ref msecondHeats, .int mo_foundAt, .int mo_foundLooks, .int mo_foundLane, .int mo_bestsDone, .ref msaved, .ref mbestHeights, .int mo_seenMany, .ref msights, .ref mby, .int mo_seedNow, .int mo_keptRow, .int mo_keptMany, .int mo_keptSecond, .int mo_keptAsked, .int mo_keptLooks, .int mo_keptChanges, .int mo_keptSeen, .ref mkeptKeys, .ref mkeptValues, .ref mkeptHeights, .ref mkeptHeats, .ref mkeptKeys2, .ref mkeptValues2, .ref mkeptHeights2, .ref mkeptHeats2, .ref mkeptSights, .long mo_hash])), (mheights, .inl (cy, 8, .inl mheights_a))]) (wr := [(mvalues, .inl (cy, 8, .inl mvalues_a))]) (n := 1) ⟨hx, hb, hml, hown, htb⟩ (c_X12_inLane l D cy mo mpage mkeys mvalues mheights mheats msecondKeys msecondValues msecondHeights msecondHeats msaved mbestHeights msights mby mkeptKeys mkeptValues mkeptHeights mkeptHeats mkeptKeys2 mkeptValues2 mkeptHeights2 mkeptHeats2 mkeptSights mo_pageMany mo_law mo_many mo_asked mo_looksAll mo_changes mo_rowsRead mo_secondMany mo_foundAt mo_foundLooks mo_foundLane mo_bestsDone mo_seenMany mo_seedNow mo_keptRow mo_keptMany mo_keptSecond mo_keptAsked mo_keptLooks mo_keptChanges mo_keptSeen mo_hash mheights_a a (show 0 ≤ mo_pageMany.toInt ∧ mo_pageMany.toInt ≤ 44 from by omega) (show 0 ≤ mo_many.toInt ∧ mo_many.toInt ≤ 8 from by omega) (show 0 ≤ mo_secondMany.toInt ∧ mo_secondMany.toInt ≤ 8 from by omega) (show (-1) ≤ mo_foundAt.toInt ∧ mo_foundAt.toInt ≤ 7 from by omega) (show 0 ≤ mo_seenMany.toInt ∧ mo_seenMany.toInt ≤ 6 from by omega) (show 0 ≤ mo_keptMany.toInt ∧ mo_keptMany.toInt ≤ 8 from by omega) (show 0 ≤ mo_keptSecond.toInt ∧ mo_keptSecond.toInt ≤ 8 from by omega) (show 0 ≤ mo_keptSeen.toInt ∧ mo_keptSeen.toInt ≤ 6 from by omega)) tw_1066 tw_1063 tw_1065 tw_46 tw_71 rfl rfl (by decide +kernel) ⟨Nat.le_of_ble_eq_true rfl, Nat.le_of_ble_eq_true rfl⟩ hK hP hD hS hA [0, 2] [1] rfl rfl rfl rfl (by decide) 0 (ci := 12) rfl rfl rfl hl.1 rfl (Nat.le_of_ble_eq_true rfl) dX12_tellLane_34 ⟨Nat.le_of_ble_eq_true rfl, Nat.le_of_ble_eq_true rfl⟩ (fun r_2 u_3 H locs hw_4 hP hD hS => ?_)
    refine W.widen (k := 0) (n := 0) (by decide) (by decide) ?_
    have hw_4 : r_2 = (fn_X12_inLane mo_many mheights_a a) := hw_4
    subst hw_4
    have hP : va_P D classes [(mvalues, .inl (cy, 8, .inl mvalues_a)), (mo, .inr (12, [.ref mpage, .int mo_pageMany, .int mo_law, .int mo_many, .int mo_asked, .int mo_looksAll, .int mo_changes, .int mo_rowsRead, .ref mkeys, .ref mvalues, .ref mheights, .ref mheats, .int mo_secondMany, .ref msecondKeys, .ref msecondValues, .ref msecondHeights, .ref msecondHeats, .int mo_foundAt, .int mo_foundLooks, .int mo_foundLane, .int mo_bestsDone, .ref msaved, .ref mbestHeights, .int mo_seenMany, .ref msights, .ref mby, .int mo_seedNow, .int mo_keptRow, .int mo_keptMany, .int mo_keptSecond, .int mo_keptAsked, .int mo_keptLooks, .int mo_keptChanges, .int mo_keptSeen, .ref mkeptKeys, .ref mkeptValues, .ref mkeptHeights, .ref mkeptHeats, .ref mkeptKeys2, .ref mkeptValues2, .ref mkeptHeights2, .ref mkeptHeats2, .ref mkeptSights, .long mo_hash])), (mheights, .inl (cy, 8, .inl mheights_a))] H := hP
    have hD : va_D A [(mvalues, .inl (cy, 8, .inl mvalues_a)), (mo, .inr (12, [.ref mpage, .int mo_pageMany, .int mo_law, .int mo_many, .int mo_asked, .int mo_looksAll, .int mo_changes, .int mo_rowsRead, .ref mkeys, .ref mvalues, .ref mheights, .ref mheats, .int mo_secondMany, .ref msecondKeys, .ref msecondValues, .ref msecondHeights, .ref msecondHeats, .int mo_foundAt, .int mo_foundLooks, .int mo_foundLane, .int mo_bestsDone, .ref msaved, .ref mbestHeights, .int mo_seenMany, .ref msights, .ref mby, .int mo_seedNow, .int mo_keptRow, .int mo_keptMany, .int mo_keptSecond, .int mo_keptAsked, .int mo_keptLooks, .int mo_keptChanges, .int mo_keptSeen, .ref mkeptKeys, .ref mkeptValues, .ref mkeptHeights, .ref mkeptHeats, .ref mkeptKeys2, .ref mkeptValues2, .ref mkeptHeights2, .ref mkeptHeats2, .ref mkeptSights, .long mo_hash])), (mheights, .inl (cy, 8, .inl mheights_a))] := hD
    refine W.widen (k := 0) (n := 0) (by decide) (by decide) ?_
    exact hret (fn_X12_inLane mo_many mheights_a a) () _ _ _ 37 (wk_sub9 (is := [1, 0, 2]) hP rfl) (hD.sub [1, 0, 2] rfl rfl) hS dX12_tellLane_37 hF.symm
  rw [if_neg c_1] at hF
  have k_1 : ¬ b.toInt = 0 := wk_neq c_1
  by_cases c_5 : b = 1
  · refine wk_toi c_5 ?_
    rw [if_pos c_5] at hF
    have k_5 : b.toInt = 1 := wk_eq c_5
    refine lv_tableIn (off := 37) (tgt := 38) hx hb dX12_tellLane_1 (by decide) (by decide) (by decide) (by decide) ?_
    refine lv_aload_n hx hb dX12_tellLane_38 rfl (lv_at hl 0 rfl) ?_
    refine lv_iconst (v := (-1)) hx hb dX12_tellLane_39 (by decide) ?_
    refine lv_iload_n hx hb dX12_tellLane_40 rfl (lv_at hl 1 rfl) ?_
    refine wk_iV (As := [.int (-1), .int a]) (rest := []) (wc := [(mo, .inr (12, [.ref mpage, .int mo_pageMany, .int mo_law, .int mo_many, .int mo_asked, .int mo_looksAll, .int mo_changes, .int mo_rowsRead, .ref mkeys, .ref mvalues, .ref mheights, .ref mheats, .int mo_secondMany, .ref msecondKeys, .ref msecondValues, .ref msecondHeights, .ref msecondHeats, .int mo_foundAt, .int mo_foundLooks, .int mo_foundLane, .int mo_bestsDone, .ref msaved, .ref mbestHeights, .int mo_seenMany, .ref msights, .ref mby, .int mo_seedNow, .int mo_keptRow, .int mo_keptMany, .int mo_keptSecond, .int mo_keptAsked, .int mo_keptLooks, .int mo_keptChanges, .int mo_keptSeen, .ref mkeptKeys, .ref mkeptValues, .ref mkeptHeights, .ref mkeptHeats, .ref mkeptKeys2, .ref mkeptValues2, .ref mkeptHeights2, .ref mkeptHeats2, .ref mkeptSights, .long mo_hash])), (mheights, .inl (cy, 8, .inl mheights_a))]) (wr := [(mvalues, .inl (cy, 8, .inl mvalues_a))]) (n := 2) ⟨hx, hb, hml, hown, htb⟩ (c_X12_widthOf l D cy mo mpage mkeys mvalues mheights mheats msecondKeys msecondValues msecondHeights msecondHeats msaved mbestHeights msights mby mkeptKeys mkeptValues mkeptHeights mkeptHeats mkeptKeys2 mkeptValues2 mkeptHeights2 mkeptHeats2 mkeptSights mo_pageMany mo_law mo_many mo_asked mo_looksAll mo_changes mo_rowsRead mo_secondMany mo_foundAt mo_foundLooks mo_foundLane mo_bestsDone mo_seenMany mo_seedNow mo_keptRow mo_keptMany mo_keptSecond mo_keptAsked mo_keptLooks mo_keptChanges mo_keptSeen mo_hash mheights_a (-1) a (show 0 ≤ mo_pageMany.toInt ∧ mo_pageMany.toInt ≤ 44 from by omega) (show 0 ≤ mo_many.toInt ∧ mo_many.toInt ≤ 8 from by omega) (show 0 ≤ mo_secondMany.toInt ∧ mo_secondMany.toInt ≤ 8 from by omega) (show (-1) ≤ mo_foundAt.toInt ∧ mo_foundAt.toInt ≤ 7 from by omega) (show 0 ≤ mo_seenMany.toInt ∧ mo_seenMany.toInt ≤ 6 from by omega) (show 0 ≤ mo_keptMany.toInt ∧ mo_keptMany.toInt ≤ 8 from by omega) (show 0 ≤ mo_keptSecond.toInt ∧ mo_keptSecond.toInt ≤ 8 from by omega) (show 0 ≤ mo_keptSeen.toInt ∧ mo_keptSeen.toInt ≤ 6 from by omega) (show (-1) ≤ (-1) ∧ (-1) ≤ 7 from by omega)) tw_1028 tw_1025 tw_1027 tw_38 tw_71 rfl rfl (by decide +kernel) ⟨Nat.le_of_ble_eq_true rfl, Nat.le_of_ble_eq_true rfl⟩ hK hP hD hS hA [0, 2] [1] rfl rfl rfl rfl (by decide) 0 (ci := 12) rfl rfl rfl hl.1 rfl (Nat.le_of_ble_eq_true rfl) dX12_tellLane_41 ⟨Nat.le_of_ble_eq_true rfl, Nat.le_of_ble_eq_true rfl⟩ (fun r_6 u_7 H locs hw_8 hP hD hS => ?_)
    refine W.widen (k := 0) (n := 0) (by decide) (by decide) ?_
    have hw_8 : r_6 = (fn_X12_widthOf mo_many mheights_a (-1) a) := hw_8
    subst hw_8
    have hP : va_P D classes [(mvalues, .inl (cy, 8, .inl mvalues_a)), (mo, .inr (12, [.ref mpage, .int mo_pageMany, .int mo_law, .int mo_many, .int mo_asked, .int mo_looksAll, .int mo_changes, .int mo_rowsRead, .ref mkeys, .ref mvalues, .ref mheights, .ref mheats, .int mo_secondMany, .ref msecondKeys, .ref msecondValues, .ref msecondHeights, .ref msecondHeats, .int mo_foundAt, .int mo_foundLooks, .int mo_foundLane, .int mo_bestsDone, .ref msaved, .ref mbestHeights, .int mo_seenMany, .ref msights, .ref mby, .int mo_seedNow, .int mo_keptRow, .int mo_keptMany, .int mo_keptSecond, .int mo_keptAsked, .int mo_keptLooks, .int mo_keptChanges, .int mo_keptSeen, .ref mkeptKeys, .ref mkeptValues, .ref mkeptHeights, .ref mkeptHeats, .ref mkeptKeys2, .ref mkeptValues2, .ref mkeptHeights2, .ref mkeptHeats2, .ref mkeptSights, .long mo_hash])), (mheights, .inl (cy, 8, .inl mheights_a))] H := hP
    have hD : va_D A [(mvalues, .inl (cy, 8, .inl mvalues_a)), (mo, .inr (12, [.ref mpage, .int mo_pageMany, .int mo_law, .int mo_many, .int mo_asked, .int mo_looksAll, .int mo_changes, .int mo_rowsRead, .ref mkeys, .ref mvalues, .ref mheights, .ref mheats, .int mo_secondMany, .ref msecondKeys, .ref msecondValues, .ref msecondHeights, .ref msecondHeats, .int mo_foundAt, .int mo_foundLooks, .int mo_foundLane, .int mo_bestsDone, .ref msaved, .ref mbestHeights, .int mo_seenMany, .ref msights, .ref mby, .int mo_seedNow, .int mo_keptRow, .int mo_keptMany, .int mo_keptSecond, .int mo_keptAsked, .int mo_keptLooks, .int mo_keptChanges, .int mo_keptSeen, .ref mkeptKeys, .ref mkeptValues, .ref mkeptHeights, .ref mkeptHeats, .ref mkeptKeys2, .ref mkeptValues2, .ref mkeptHeights2, .ref mkeptHeats2, .ref mkeptSights, .long mo_hash])), (mheights, .inl (cy, 8, .inl mheights_a))] := hD
    refine W.widen (k := 0) (n := 0) (by decide) (by decide) ?_
    exact hret (fn_X12_widthOf mo_many mheights_a (-1) a) () _ _ _ 44 (wk_sub9 (is := [1, 0, 2]) hP rfl) (hD.sub [1, 0, 2] rfl rfl) hS dX12_tellLane_44 hF.symm
  rw [if_neg c_5] at hF
  have k_5 : ¬ b.toInt = 1 := wk_neq c_5
  by_cases c_9 : b = 2
  · refine wk_toi c_9 ?_
    rw [if_pos c_9] at hF
    have k_9 : b.toInt = 2 := wk_eq c_9
    refine lv_tableIn (off := 44) (tgt := 45) hx hb dX12_tellLane_1 (by decide) (by decide) (by decide) (by decide) ?_
    refine lv_aload_n hx hb dX12_tellLane_45 rfl (lv_at hl 0 rfl) ?_
    refine lv_iconst (v := (-1)) hx hb dX12_tellLane_46 (by decide) ?_
    refine lv_iload_n hx hb dX12_tellLane_47 rfl (lv_at hl 1 rfl) ?_
    refine wk_iV (As := [.int (-1), .int a]) (rest := []) (wc := [(mo, .inr (12, [.ref mpage, .int mo_pageMany, .int mo_law, .int mo_many, .int mo_asked, .int mo_looksAll, .int mo_changes, .int mo_rowsRead, .ref mkeys, .ref mvalues, .ref mheights, .ref mheats, .int mo_secondMany, .ref msecondKeys, .ref msecondValues, .ref msecondHeights, .ref msecondHeats, .int mo_foundAt, .int mo_foundLooks, .int mo_foundLane, .int mo_bestsDone, .ref msaved, .ref mbestHeights, .int mo_seenMany, .ref msights, .ref mby, .int mo_seedNow, .int mo_keptRow, .int mo_keptMany, .int mo_keptSecond, .int mo_keptAsked, .int mo_keptLooks, .int mo_keptChanges, .int mo_keptSeen, .ref mkeptKeys, .ref mkeptValues, .ref mkeptHeights, .ref mkeptHeats, .ref mkeptKeys2, .ref mkeptValues2, .ref mkeptHeights2, .ref mkeptHeats2, .ref mkeptSights, .long mo_hash])), (mvalues, .inl (cy, 8, .inl mvalues_a)), (mheights, .inl (cy, 8, .inl mheights_a))]) (wr := []) (n := 2) ⟨hx, hb, hml, hown, htb⟩ (c_X12_weightOf l D cy mo mpage mkeys mvalues mheights mheats msecondKeys msecondValues msecondHeights msecondHeats msaved mbestHeights msights mby mkeptKeys mkeptValues mkeptHeights mkeptHeats mkeptKeys2 mkeptValues2 mkeptHeights2 mkeptHeats2 mkeptSights mo_pageMany mo_law mo_many mo_asked mo_looksAll mo_changes mo_rowsRead mo_secondMany mo_foundAt mo_foundLooks mo_foundLane mo_bestsDone mo_seenMany mo_seedNow mo_keptRow mo_keptMany mo_keptSecond mo_keptAsked mo_keptLooks mo_keptChanges mo_keptSeen mo_hash mvalues_a mheights_a (-1) a (show 0 ≤ mo_pageMany.toInt ∧ mo_pageMany.toInt ≤ 44 from by omega) (show 0 ≤ mo_many.toInt ∧ mo_many.toInt ≤ 8 from by omega) (show 0 ≤ mo_secondMany.toInt ∧ mo_secondMany.toInt ≤ 8 from by omega) (show (-1) ≤ mo_foundAt.toInt ∧ mo_foundAt.toInt ≤ 7 from by omega) (show 0 ≤ mo_seenMany.toInt ∧ mo_seenMany.toInt ≤ 6 from by omega) (show 0 ≤ mo_keptMany.toInt ∧ mo_keptMany.toInt ≤ 8 from by omega) (show 0 ≤ mo_keptSecond.toInt ∧ mo_keptSecond.toInt ≤ 8 from by omega) (show 0 ≤ mo_keptSeen.toInt ∧ mo_keptSeen.toInt ≤ 6 from by omega) (show (-1) ≤ (-1) ∧ (-1) ≤ 7 from by omega)) tw_1034 tw_1031 tw_1033 tw_39 tw_71 rfl rfl (by decide +kernel) ⟨Nat.le_of_ble_eq_true rfl, Nat.le_of_ble_eq_true rfl⟩ hK hP hD hS hA [0, 1, 2] [] rfl rfl rfl rfl (by decide) 0 (ci := 12) rfl rfl rfl hl.1 rfl (Nat.le_of_ble_eq_true rfl) dX12_tellLane_48 ⟨Nat.le_of_ble_eq_true rfl, Nat.le_of_ble_eq_true rfl⟩ (fun r_10 u_11 H locs hw_12 hP hD hS => ?_)
    refine W.widen (k := 0) (n := 0) (by decide) (by decide) ?_
    have hw_12 : r_10 = (fn_X12_weightOf mo_many mvalues_a mheights_a (-1) a) := hw_12
    subst hw_12
    have hP : va_P D classes [(mo, .inr (12, [.ref mpage, .int mo_pageMany, .int mo_law, .int mo_many, .int mo_asked, .int mo_looksAll, .int mo_changes, .int mo_rowsRead, .ref mkeys, .ref mvalues, .ref mheights, .ref mheats, .int mo_secondMany, .ref msecondKeys, .ref msecondValues, .ref msecondHeights, .ref msecondHeats, .int mo_foundAt, .int mo_foundLooks, .int mo_foundLane, .int mo_bestsDone, .ref msaved, .ref mbestHeights, .int mo_seenMany, .ref msights, .ref mby, .int mo_seedNow, .int mo_keptRow, .int mo_keptMany, .int mo_keptSecond, .int mo_keptAsked, .int mo_keptLooks, .int mo_keptChanges, .int mo_keptSeen, .ref mkeptKeys, .ref mkeptValues, .ref mkeptHeights, .ref mkeptHeats, .ref mkeptKeys2, .ref mkeptValues2, .ref mkeptHeights2, .ref mkeptHeats2, .ref mkeptSights, .long mo_hash])), (mvalues, .inl (cy, 8, .inl mvalues_a)), (mheights, .inl (cy, 8, .inl mheights_a))] H := hP
    have hD : va_D A [(mo, .inr (12, [.ref mpage, .int mo_pageMany, .int mo_law, .int mo_many, .int mo_asked, .int mo_looksAll, .int mo_changes, .int mo_rowsRead, .ref mkeys, .ref mvalues, .ref mheights, .ref mheats, .int mo_secondMany, .ref msecondKeys, .ref msecondValues, .ref msecondHeights, .ref msecondHeats, .int mo_foundAt, .int mo_foundLooks, .int mo_foundLane, .int mo_bestsDone, .ref msaved, .ref mbestHeights, .int mo_seenMany, .ref msights, .ref mby, .int mo_seedNow, .int mo_keptRow, .int mo_keptMany, .int mo_keptSecond, .int mo_keptAsked, .int mo_keptLooks, .int mo_keptChanges, .int mo_keptSeen, .ref mkeptKeys, .ref mkeptValues, .ref mkeptHeights, .ref mkeptHeats, .ref mkeptKeys2, .ref mkeptValues2, .ref mkeptHeights2, .ref mkeptHeats2, .ref mkeptSights, .long mo_hash])), (mvalues, .inl (cy, 8, .inl mvalues_a)), (mheights, .inl (cy, 8, .inl mheights_a))] := hD
    refine W.widen (k := 0) (n := 0) (by decide) (by decide) ?_
    exact hret (fn_X12_weightOf mo_many mvalues_a mheights_a (-1) a) () _ _ _ 51 (wk_sub9 (is := [0, 1, 2]) hP rfl) (hD.sub [0, 1, 2] rfl rfl) hS dX12_tellLane_51 hF.symm
  rw [if_neg c_9] at hF
  have k_9 : ¬ b.toInt = 2 := wk_neq c_9
  by_cases c_13 : b = 3
  · refine wk_toi c_13 ?_
    rw [if_pos c_13] at hF
    have k_13 : b.toInt = 3 := wk_eq c_13
    refine lv_tableIn (off := 51) (tgt := 52) hx hb dX12_tellLane_1 (by decide) (by decide) (by decide) (by decide) ?_
    refine lv_aload_n hx hb dX12_tellLane_52 rfl (lv_at hl 0 rfl) ?_
    refine lv_iload_n hx hb dX12_tellLane_53 rfl (lv_at hl 1 rfl) ?_
    refine wk_iV (As := [.int a]) (rest := []) (wc := [(mo, .inr (12, [.ref mpage, .int mo_pageMany, .int mo_law, .int mo_many, .int mo_asked, .int mo_looksAll, .int mo_changes, .int mo_rowsRead, .ref mkeys, .ref mvalues, .ref mheights, .ref mheats, .int mo_secondMany, .ref msecondKeys, .ref msecondValues, .ref msecondHeights, .ref msecondHeats, .int mo_foundAt, .int mo_foundLooks, .int mo_foundLane, .int mo_bestsDone, .ref msaved, .ref mbestHeights, .int mo_seenMany, .ref msights, .ref mby, .int mo_seedNow, .int mo_keptRow, .int mo_keptMany, .int mo_keptSecond, .int mo_keptAsked, .int mo_keptLooks, .int mo_keptChanges, .int mo_keptSeen, .ref mkeptKeys, .ref mkeptValues, .ref mkeptHeights, .ref mkeptHeats, .ref mkeptKeys2, .ref mkeptValues2, .ref mkeptHeights2, .ref mkeptHeats2, .ref mkeptSights, .long mo_hash])), (mheights, .inl (cy, 8, .inl mheights_a))]) (wr := [(mvalues, .inl (cy, 8, .inl mvalues_a))]) (n := 1) ⟨hx, hb, hml, hown, htb⟩ (c_X12_widest l D cy mo mpage mkeys mvalues mheights mheats msecondKeys msecondValues msecondHeights msecondHeats msaved mbestHeights msights mby mkeptKeys mkeptValues mkeptHeights mkeptHeats mkeptKeys2 mkeptValues2 mkeptHeights2 mkeptHeats2 mkeptSights mo_pageMany mo_law mo_many mo_asked mo_looksAll mo_changes mo_rowsRead mo_secondMany mo_foundAt mo_foundLooks mo_foundLane mo_bestsDone mo_seenMany mo_seedNow mo_keptRow mo_keptMany mo_keptSecond mo_keptAsked mo_keptLooks mo_keptChanges mo_keptSeen mo_hash mheights_a a (show 0 ≤ mo_pageMany.toInt ∧ mo_pageMany.toInt ≤ 44 from by omega) (show 0 ≤ mo_many.toInt ∧ mo_many.toInt ≤ 8 from by omega) (show 0 ≤ mo_secondMany.toInt ∧ mo_secondMany.toInt ≤ 8 from by omega) (show (-1) ≤ mo_foundAt.toInt ∧ mo_foundAt.toInt ≤ 7 from by omega) (show 0 ≤ mo_seenMany.toInt ∧ mo_seenMany.toInt ≤ 6 from by omega) (show 0 ≤ mo_keptMany.toInt ∧ mo_keptMany.toInt ≤ 8 from by omega) (show 0 ≤ mo_keptSecond.toInt ∧ mo_keptSecond.toInt ≤ 8 from by omega) (show 0 ≤ mo_keptSeen.toInt ∧ mo_keptSeen.toInt ≤ 6 from by omega)) tw_1070 tw_1067 tw_1069 tw_47 tw_71 rfl rfl (by decide +kernel) ⟨Nat.le_of_ble_eq_true rfl, Nat.le_of_ble_eq_true rfl⟩ hK hP hD hS hA [0, 2] [1] rfl rfl rfl rfl (by decide) 0 (ci := 12) rfl rfl rfl hl.1 rfl (Nat.le_of_ble_eq_true rfl) dX12_tellLane_54 ⟨Nat.le_of_ble_eq_true rfl, Nat.le_of_ble_eq_true rfl⟩ (fun r_14 u_15 H locs hw_16 hP hD hS => ?_)
    refine W.widen (k := 0) (n := 0) (by decide) (by decide) ?_
    have hw_16 : r_14 = (fn_X12_widest mo_many mheights_a a) := hw_16
    subst hw_16
    have hP : va_P D classes [(mvalues, .inl (cy, 8, .inl mvalues_a)), (mo, .inr (12, [.ref mpage, .int mo_pageMany, .int mo_law, .int mo_many, .int mo_asked, .int mo_looksAll, .int mo_changes, .int mo_rowsRead, .ref mkeys, .ref mvalues, .ref mheights, .ref mheats, .int mo_secondMany, .ref msecondKeys, .ref msecondValues, .ref msecondHeights, .ref msecondHeats, .int mo_foundAt, .int mo_foundLooks, .int mo_foundLane, .int mo_bestsDone, .ref msaved, .ref mbestHeights, .int mo_seenMany, .ref msights, .ref mby, .int mo_seedNow, .int mo_keptRow, .int mo_keptMany, .int mo_keptSecond, .int mo_keptAsked, .int mo_keptLooks, .int mo_keptChanges, .int mo_keptSeen, .ref mkeptKeys, .ref mkeptValues, .ref mkeptHeights, .ref mkeptHeats, .ref mkeptKeys2, .ref mkeptValues2, .ref mkeptHeights2, .ref mkeptHeats2, .ref mkeptSights, .long mo_hash])), (mheights, .inl (cy, 8, .inl mheights_a))] H := hP
    have hD : va_D A [(mvalues, .inl (cy, 8, .inl mvalues_a)), (mo, .inr (12, [.ref mpage, .int mo_pageMany, .int mo_law, .int mo_many, .int mo_asked, .int mo_looksAll, .int mo_changes, .int mo_rowsRead, .ref mkeys, .ref mvalues, .ref mheights, .ref mheats, .int mo_secondMany, .ref msecondKeys, .ref msecondValues, .ref msecondHeights, .ref msecondHeats, .int mo_foundAt, .int mo_foundLooks, .int mo_foundLane, .int mo_bestsDone, .ref msaved, .ref mbestHeights, .int mo_seenMany, .ref msights, .ref mby, .int mo_seedNow, .int mo_keptRow, .int mo_keptMany, .int mo_keptSecond, .int mo_keptAsked, .int mo_keptLooks, .int mo_keptChanges, .int mo_keptSeen, .ref mkeptKeys, .ref mkeptValues, .ref mkeptHeights, .ref mkeptHeats, .ref mkeptKeys2, .ref mkeptValues2, .ref mkeptHeights2, .ref mkeptHeats2, .ref mkeptSights, .long mo_hash])), (mheights, .inl (cy, 8, .inl mheights_a))] := hD
    refine W.widen (k := 0) (n := 0) (by decide) (by decide) ?_
    exact hret (fn_X12_widest mo_many mheights_a a) () _ _ _ 57 (wk_sub9 (is := [1, 0, 2]) hP rfl) (hD.sub [1, 0, 2] rfl rfl) hS dX12_tellLane_57 hF.symm
  rw [if_neg c_13] at hF
  have k_13 : ¬ b.toInt = 3 := wk_neq c_13
  refine lv_tableOut (tgt := 58) hx hb dX12_tellLane_1 (show b.toInt < 0 ∨ 3 < b.toInt from by omega) (by decide) ?_
  refine lv_bipush (v := (-102)) hx hb dX12_tellLane_58 (by decide) ?_
  refine W.widen (k := 0) (n := 0) (by decide) (by decide) ?_
  exact hret (-102) () _ _ _ 60 (wk_sub9 (is := [0, 1, 2]) hP rfl) (hD.sub [0, 1, 2] rfl rfl) hS dX12_tellLane_60 hF.symm
def fn_X12_lane (mo_many : Int32) (mvalues_a : Nat → Int32) (mheights_a : Nat → Int32) (a : Int32) (b : Int32) : Int32 := (if (fn_X12_lacks mo_many) = 0 then (if (wk_in a.toInt64 0 3) = 0 then (-101) else (fn_X12_tellLane mo_many mvalues_a mheights_a a b)) else (-101))
theorem dX12_lane_0 : decode cX12_lane 0 = .ok (.aload_n 0, 1) := by decide +kernel
theorem dX12_lane_1 : decode cX12_lane 1 = .ok (.invokevirtual 185, 3) := by decide +kernel
theorem dX12_lane_4 : decode cX12_lane 4 = .ok (.ifCond .ne 24, 3) := by decide +kernel
theorem dX12_lane_7 : decode cX12_lane 7 = .ok (.iload_n 1, 1) := by decide +kernel
theorem dX12_lane_8 : decode cX12_lane 8 = .ok (.i2l, 1) := by decide +kernel
theorem dX12_lane_9 : decode cX12_lane 9 = .ok (.lconst 0, 1) := by decide +kernel
theorem dX12_lane_10 : decode cX12_lane 10 = .ok (.ldc2_w 183, 3) := by decide +kernel
theorem dX12_lane_13 : decode cX12_lane 13 = .ok (.invokestatic 82, 3) := by decide +kernel
theorem dX12_lane_16 : decode cX12_lane 16 = .ok (.ifCond .eq 12, 3) := by decide +kernel
theorem dX12_lane_19 : decode cX12_lane 19 = .ok (.aload_n 0, 1) := by decide +kernel
theorem dX12_lane_20 : decode cX12_lane 20 = .ok (.iload_n 1, 1) := by decide +kernel
theorem dX12_lane_21 : decode cX12_lane 21 = .ok (.iload_n 2, 1) := by decide +kernel
theorem dX12_lane_22 : decode cX12_lane 22 = .ok (.invokevirtual 232, 3) := by decide +kernel
theorem dX12_lane_25 : decode cX12_lane 25 = .ok (.goto 5, 3) := by decide +kernel
theorem dX12_lane_28 : decode cX12_lane 28 = .ok (.bipush (-101), 2) := by decide +kernel
theorem dX12_lane_30 : decode cX12_lane 30 = .ok (.ireturn, 1) := by decide +kernel
set_option maxHeartbeats 4000000 in
set_option maxRecDepth 100000 in
theorem c_X12_lane (l : Launch) (D : va_G) (cy : ClassId) (mo mpage mkeys mvalues mheights mheats msecondKeys msecondValues msecondHeights msecondHeats msaved mbestHeights msights mby mkeptKeys mkeptValues mkeptHeights mkeptHeats mkeptKeys2 mkeptValues2 mkeptHeights2 mkeptHeats2 mkeptSights : Nat) (mo_pageMany : Int32) (mo_law : Int32) (mo_many : Int32) (mo_asked : Int32) (mo_looksAll : Int32) (mo_changes : Int32) (mo_rowsRead : Int32) (mo_secondMany : Int32) (mo_foundAt : Int32) (mo_foundLooks : Int32) (mo_foundLane : Int32) (mo_bestsDone : Int32) (mo_seenMany : Int32) (mo_seedNow : Int32) (mo_keptRow : Int32) (mo_keptMany : Int32) (mo_keptSecond : Int32) (mo_keptAsked : Int32) (mo_keptLooks : Int32) (mo_keptChanges : Int32) (mo_keptSeen : Int32) (mo_hash : Int64) (mvalues_a : Nat → Int32) (mheights_a : Nat → Int32) (a : Int32) (b : Int32) (g_0 : 0 ≤ mo_pageMany.toInt ∧ mo_pageMany.toInt ≤ 44) (g_1 : 0 ≤ mo_many.toInt ∧ mo_many.toInt ≤ 8) (g_2 : 0 ≤ mo_secondMany.toInt ∧ mo_secondMany.toInt ≤ 8) (g_3 : (-1) ≤ mo_foundAt.toInt ∧ mo_foundAt.toInt ≤ 7) (g_4 : 0 ≤ mo_seenMany.toInt ∧ mo_seenMany.toInt ≤ 6) (g_5 : 0 ≤ mo_keptMany.toInt ∧ mo_keptMany.toInt ≤ 8) (g_6 : 0 ≤ mo_keptSecond.toInt ∧ mo_keptSecond.toInt ≤ 8) (g_7 : 0 ≤ mo_keptSeen.toInt ∧ mo_keptSeen.toInt ≤ 6) : wk_Ci l yX12_lane cX12_lane 3 (some .int) { frames := 3, cells := 0, slots := 0, locals := 70 } D cy [.ref mo, .int a, .int b] [(mo, .inr (12, [.ref mpage, .int mo_pageMany, .int mo_law, .int mo_many, .int mo_asked, .int mo_looksAll, .int mo_changes, .int mo_rowsRead, .ref mkeys, .ref mvalues, .ref mheights, .ref mheats, .int mo_secondMany, .ref msecondKeys, .ref msecondValues, .ref msecondHeights, .ref msecondHeats, .int mo_foundAt, .int mo_foundLooks, .int mo_foundLane, .int mo_bestsDone, .ref msaved, .ref mbestHeights, .int mo_seenMany, .ref msights, .ref mby, .int mo_seedNow, .int mo_keptRow, .int mo_keptMany, .int mo_keptSecond, .int mo_keptAsked, .int mo_keptLooks, .int mo_keptChanges, .int mo_keptSeen, .ref mkeptKeys, .ref mkeptValues, .ref mkeptHeights, .ref mkeptHeats, .ref mkeptKeys2, .ref mkeptValues2, .ref mkeptHeights2, .ref mkeptHeats2, .ref mkeptSights, .long mo_hash])), (mvalues, .inl (cy, 8, .inl mvalues_a)), (mheights, .inl (cy, 8, .inl mheights_a))] 0 0 (fun (r : Int32) (u : Unit) => r = (fn_X12_lane mo_many mvalues_a mheights_a a b)) (fun u => [(mo, .inr (12, [.ref mpage, .int mo_pageMany, .int mo_law, .int mo_many, .int mo_asked, .int mo_looksAll, .int mo_changes, .int mo_rowsRead, .ref mkeys, .ref mvalues, .ref mheights, .ref mheats, .int mo_secondMany, .ref msecondKeys, .ref msecondValues, .ref msecondHeights, .ref msecondHeats, .int mo_foundAt, .int mo_foundLooks, .int mo_foundLane, .int mo_bestsDone, .ref msaved, .ref mbestHeights, .int mo_seenMany, .ref msights, .ref mby, .int mo_seedNow, .int mo_keptRow, .int mo_keptMany, .int mo_keptSecond, .int mo_keptAsked, .int mo_keptLooks, .int mo_keptChanges, .int mo_keptSeen, .ref mkeptKeys, .ref mkeptValues, .ref mkeptHeights, .ref mkeptHeats, .ref mkeptKeys2, .ref mkeptValues2, .ref mkeptHeights2, .ref mkeptHeats2, .ref mkeptSights, .long mo_hash])), (mvalues, .inl (cy, 8, .inl mvalues_a)), (mheights, .inl (cy, 8, .inl mheights_a))]) := by
  refine wk_mk2Ci (by decide) (Nat.le_of_ble_eq_true rfl) ?_
  intro p e s m args below meth c A ls Q B hA hK hP hD hS hl hret
  obtain ⟨hx, hb, hr, hlocks, hml, hown, htb, hin⟩ := B
  have hl : lv_has ls 3 [(0, .ref mo), (1, .int a), (2, .int b)] := hl
  have hF : (fn_X12_lane mo_many mvalues_a mheights_a a b) = (fn_X12_lane mo_many mvalues_a mheights_a a b) := rfl
  conv at hF => rhs; unfold fn_X12_lane
  refine lv_aload_n hx hb dX12_lane_0 rfl (lv_at hl 0 rfl) ?_
  refine wk_iV (As := []) (rest := []) (wc := [(mo, .inr (12, [.ref mpage, .int mo_pageMany, .int mo_law, .int mo_many, .int mo_asked, .int mo_looksAll, .int mo_changes, .int mo_rowsRead, .ref mkeys, .ref mvalues, .ref mheights, .ref mheats, .int mo_secondMany, .ref msecondKeys, .ref msecondValues, .ref msecondHeights, .ref msecondHeats, .int mo_foundAt, .int mo_foundLooks, .int mo_foundLane, .int mo_bestsDone, .ref msaved, .ref mbestHeights, .int mo_seenMany, .ref msights, .ref mby, .int mo_seedNow, .int mo_keptRow, .int mo_keptMany, .int mo_keptSecond, .int mo_keptAsked, .int mo_keptLooks, .int mo_keptChanges, .int mo_keptSeen, .ref mkeptKeys, .ref mkeptValues, .ref mkeptHeights, .ref mkeptHeats, .ref mkeptKeys2, .ref mkeptValues2, .ref mkeptHeights2, .ref mkeptHeats2, .ref mkeptSights, .long mo_hash]))]) (wr := [(mvalues, .inl (cy, 8, .inl mvalues_a)), (mheights, .inl (cy, 8, .inl mheights_a))]) (n := 0) ⟨hx, hb, hml, hown, htb⟩ (c_X12_lacks l D cy mo mpage mkeys mvalues mheights mheats msecondKeys msecondValues msecondHeights msecondHeats msaved mbestHeights msights mby mkeptKeys mkeptValues mkeptHeights mkeptHeats mkeptKeys2 mkeptValues2 mkeptHeights2 mkeptHeats2 mkeptSights mo_pageMany mo_law mo_many mo_asked mo_looksAll mo_changes mo_rowsRead mo_secondMany mo_foundAt mo_foundLooks mo_foundLane mo_bestsDone mo_seenMany mo_seedNow mo_keptRow mo_keptMany mo_keptSecond mo_keptAsked mo_keptLooks mo_keptChanges mo_keptSeen mo_hash  (show 0 ≤ mo_pageMany.toInt ∧ mo_pageMany.toInt ≤ 44 from by omega) (show 0 ≤ mo_many.toInt ∧ mo_many.toInt ≤ 8 from by omega) (show 0 ≤ mo_secondMany.toInt ∧ mo_secondMany.toInt ≤ 8 from by omega) (show (-1) ≤ mo_foundAt.toInt ∧ mo_foundAt.toInt ≤ 7 from by omega) (show 0 ≤ mo_seenMany.toInt ∧ mo_seenMany.toInt ≤ 6 from by omega) (show 0 ≤ mo_keptMany.toInt ∧ mo_keptMany.toInt ≤ 8 from by omega) (show 0 ≤ mo_keptSecond.toInt ∧ mo_keptSecond.toInt ≤ 8 from by omega) (show 0 ≤ mo_keptSeen.toInt ∧ mo_keptSeen.toInt ≤ 6 from by omega)) tw_969 tw_966 tw_968 tw_29 tw_71 rfl rfl (by decide +kernel) ⟨Nat.le_of_ble_eq_true rfl, Nat.le_of_ble_eq_true rfl⟩ hK hP hD hS hA [0] [1, 2] rfl rfl rfl rfl (by decide) 0 (ci := 12) rfl rfl rfl hl.1 rfl (Nat.le_of_ble_eq_true rfl) dX12_lane_1 ⟨Nat.le_of_ble_eq_true rfl, Nat.le_of_ble_eq_true rfl⟩ (fun r_1 u_2 H locs hw_3 hP hD hS => ?_)
  refine W.widen (k := 0) (n := 0) (by decide) (by decide) ?_
  obtain ⟨hw_3, k_4, k_5, k_6⟩ := hw_3
  have hw_3 : r_1 = (fn_X12_lacks mo_many) := hw_3
  subst hw_3
  have k_4 : ((fn_X12_lacks mo_many) = 0 ∨ (fn_X12_lacks mo_many) = 1) := k_4
  have k_5 : ((fn_X12_lacks mo_many).toInt = 0 ∨ mo_many.toInt = 0) := k_5
  have k_6 : ((fn_X12_lacks mo_many).toInt = 1 ∨ 1 ≤ mo_many.toInt) := k_6
  have k_7 : 0 ≤ (fn_X12_lacks mo_many).toInt ∧ (fn_X12_lacks mo_many).toInt ≤ 1 := wk_b01 (by assumption)
  have hP : va_P D classes [(mvalues, .inl (cy, 8, .inl mvalues_a)), (mheights, .inl (cy, 8, .inl mheights_a)), (mo, .inr (12, [.ref mpage, .int mo_pageMany, .int mo_law, .int mo_many, .int mo_asked, .int mo_looksAll, .int mo_changes, .int mo_rowsRead, .ref mkeys, .ref mvalues, .ref mheights, .ref mheats, .int mo_secondMany, .ref msecondKeys, .ref msecondValues, .ref msecondHeights, .ref msecondHeats, .int mo_foundAt, .int mo_foundLooks, .int mo_foundLane, .int mo_bestsDone, .ref msaved, .ref mbestHeights, .int mo_seenMany, .ref msights, .ref mby, .int mo_seedNow, .int mo_keptRow, .int mo_keptMany, .int mo_keptSecond, .int mo_keptAsked, .int mo_keptLooks, .int mo_keptChanges, .int mo_keptSeen, .ref mkeptKeys, .ref mkeptValues, .ref mkeptHeights, .ref mkeptHeats, .ref mkeptKeys2, .ref mkeptValues2, .ref mkeptHeights2, .ref mkeptHeats2, .ref mkeptSights, .long mo_hash]))] H := hP
  have hD : va_D A [(mvalues, .inl (cy, 8, .inl mvalues_a)), (mheights, .inl (cy, 8, .inl mheights_a)), (mo, .inr (12, [.ref mpage, .int mo_pageMany, .int mo_law, .int mo_many, .int mo_asked, .int mo_looksAll, .int mo_changes, .int mo_rowsRead, .ref mkeys, .ref mvalues, .ref mheights, .ref mheats, .int mo_secondMany, .ref msecondKeys, .ref msecondValues, .ref msecondHeights, .ref msecondHeats, .int mo_foundAt, .int mo_foundLooks, .int mo_foundLane, .int mo_bestsDone, .ref msaved, .ref mbestHeights, .int mo_seenMany, .ref msights, .ref mby, .int mo_seedNow, .int mo_keptRow, .int mo_keptMany, .int mo_keptSecond, .int mo_keptAsked, .int mo_keptLooks, .int mo_keptChanges, .int mo_keptSeen, .ref mkeptKeys, .ref mkeptValues, .ref mkeptHeights, .ref mkeptHeats, .ref mkeptKeys2, .ref mkeptValues2, .ref mkeptHeights2, .ref mkeptHeats2, .ref mkeptSights, .long mo_hash]))] := hD
  refine lv_if_ne (tgt := 28) hx hb dX12_lane_4 (by decide) (fun c_8 => ?_) (fun c_8 => ?_)
  · have k_8 : ¬ (fn_X12_lacks mo_many).toInt = 0 := wk_neq c_8
    rw [if_neg c_8] at hF
    refine lv_bipush (v := (-101)) hx hb dX12_lane_28 (by decide) ?_
    refine W.widen (k := 0) (n := 0) (by decide) (by decide) ?_
    exact hret (-101) () _ _ _ 30 (wk_sub9 (is := [2, 0, 1]) hP rfl) (hD.sub [2, 0, 1] rfl rfl) hS dX12_lane_30 hF.symm
  · have k_8 : (fn_X12_lacks mo_many).toInt = 0 := wk_eq c_8
    rw [if_pos c_8] at hF
    refine lv_iload_n hx hb dX12_lane_7 rfl (lv_at hl 1 rfl) ?_
    refine lv_i2l (v := a.toInt64) hx hb dX12_lane_8 rfl ?_
    refine lv_lconst (v := 0) hx hb dX12_lane_9 (by decide) ?_
    refine lv_ldc2 (v := 3) hx hb hown (htb _ tw_965) dX12_lane_10 ?_
    refine wk_iS (As := [.long a.toInt64, .long 0, .long 3]) (rest := []) (wc := []) (wr := [(mvalues, .inl (cy, 8, .inl mvalues_a)), (mheights, .inl (cy, 8, .inl mheights_a)), (mo, .inr (12, [.ref mpage, .int mo_pageMany, .int mo_law, .int mo_many, .int mo_asked, .int mo_looksAll, .int mo_changes, .int mo_rowsRead, .ref mkeys, .ref mvalues, .ref mheights, .ref mheats, .int mo_secondMany, .ref msecondKeys, .ref msecondValues, .ref msecondHeights, .ref msecondHeats, .int mo_foundAt, .int mo_foundLooks, .int mo_foundLane, .int mo_bestsDone, .ref msaved, .ref mbestHeights, .int mo_seenMany, .ref msights, .ref mby, .int mo_seedNow, .int mo_keptRow, .int mo_keptMany, .int mo_keptSecond, .int mo_keptAsked, .int mo_keptLooks, .int mo_keptChanges, .int mo_keptSeen, .ref mkeptKeys, .ref mkeptValues, .ref mkeptHeights, .ref mkeptHeats, .ref mkeptKeys2, .ref mkeptValues2, .ref mkeptHeights2, .ref mkeptHeats2, .ref mkeptSights, .long mo_hash]))]) (n := 3) ⟨hx, hb, hml, hown, htb⟩ (c_X12_in l D cy   a.toInt64 0 3 ) tw_903 tw_901 tw_902 tw_71 rfl rfl (by decide +kernel) ⟨Nat.le_of_ble_eq_true rfl, Nat.le_of_ble_eq_true rfl⟩ hK hP hD hS hA [] [0, 1, 2] rfl rfl rfl rfl (by decide) rfl hl.1 rfl (Nat.le_of_ble_eq_true rfl) dX12_lane_13 ⟨Nat.le_of_ble_eq_true rfl, Nat.le_of_ble_eq_true rfl⟩ (fun r_9 u_10 H locs hw_11 hP hD hS => ?_)
    refine W.widen (k := 0) (n := 0) (by decide) (by decide) ?_
    obtain ⟨hw_11, k_12⟩ := hw_11
    have hw_11 : r_9 = (wk_in a.toInt64 0 3) := hw_11
    subst hw_11
    have k_12 : ((wk_in a.toInt64 0 3) = 0 ∨ (wk_in a.toInt64 0 3) = 1) := k_12
    have k_13 : 0 ≤ (wk_in a.toInt64 0 3).toInt ∧ (wk_in a.toInt64 0 3).toInt ≤ 1 := wk_b01 (by assumption)
    have k_14 : ((wk_in a.toInt64 0 3).toInt = 1 ∧ 0 ≤ a.toInt ∧ a.toInt ≤ 3) ∨ ((wk_in a.toInt64 0 3).toInt = 0 ∧ ¬ (0 ≤ a.toInt ∧ a.toInt ≤ 3)) := by have h9 := wk_inf a.toInt64 0 3; simp only [wk_64] at h9; exact h9
    have hP : va_P D classes [(mvalues, .inl (cy, 8, .inl mvalues_a)), (mheights, .inl (cy, 8, .inl mheights_a)), (mo, .inr (12, [.ref mpage, .int mo_pageMany, .int mo_law, .int mo_many, .int mo_asked, .int mo_looksAll, .int mo_changes, .int mo_rowsRead, .ref mkeys, .ref mvalues, .ref mheights, .ref mheats, .int mo_secondMany, .ref msecondKeys, .ref msecondValues, .ref msecondHeights, .ref msecondHeats, .int mo_foundAt, .int mo_foundLooks, .int mo_foundLane, .int mo_bestsDone, .ref msaved, .ref mbestHeights, .int mo_seenMany, .ref msights, .ref mby, .int mo_seedNow, .int mo_keptRow, .int mo_keptMany, .int mo_keptSecond, .int mo_keptAsked, .int mo_keptLooks, .int mo_keptChanges, .int mo_keptSeen, .ref mkeptKeys, .ref mkeptValues, .ref mkeptHeights, .ref mkeptHeats, .ref mkeptKeys2, .ref mkeptValues2, .ref mkeptHeights2, .ref mkeptHeats2, .ref mkeptSights, .long mo_hash]))] H := hP
    have hD : va_D A [(mvalues, .inl (cy, 8, .inl mvalues_a)), (mheights, .inl (cy, 8, .inl mheights_a)), (mo, .inr (12, [.ref mpage, .int mo_pageMany, .int mo_law, .int mo_many, .int mo_asked, .int mo_looksAll, .int mo_changes, .int mo_rowsRead, .ref mkeys, .ref mvalues, .ref mheights, .ref mheats, .int mo_secondMany, .ref msecondKeys, .ref msecondValues, .ref msecondHeights, .ref msecondHeats, .int mo_foundAt, .int mo_foundLooks, .int mo_foundLane, .int mo_bestsDone, .ref msaved, .ref mbestHeights, .int mo_seenMany, .ref msights, .ref mby, .int mo_seedNow, .int mo_keptRow, .int mo_keptMany, .int mo_keptSecond, .int mo_keptAsked, .int mo_keptLooks, .int mo_keptChanges, .int mo_keptSeen, .ref mkeptKeys, .ref mkeptValues, .ref mkeptHeights, .ref mkeptHeats, .ref mkeptKeys2, .ref mkeptValues2, .ref mkeptHeights2, .ref mkeptHeats2, .ref mkeptSights, .long mo_hash]))] := hD
    refine lv_if_eq (tgt := 28) hx hb dX12_lane_16 (by decide) (fun c_15 => ?_) (fun c_15 => ?_)
    · have k_15 : (wk_in a.toInt64 0 3).toInt = 0 := wk_eq c_15
      rw [if_pos c_15] at hF
      refine lv_bipush (v := (-101)) hx hb dX12_lane_28 (by decide) ?_
      refine W.widen (k := 0) (n := 0) (by decide) (by decide) ?_
      exact hret (-101) () _ _ _ 30 (wk_sub9 (is := [2, 0, 1]) hP rfl) (hD.sub [2, 0, 1] rfl rfl) hS dX12_lane_30 hF.symm
    · have k_15 : ¬ (wk_in a.toInt64 0 3).toInt = 0 := wk_neq c_15
      rw [if_neg c_15] at hF
      refine lv_aload_n hx hb dX12_lane_19 rfl (lv_at hl 0 rfl) ?_
      refine lv_iload_n hx hb dX12_lane_20 rfl (lv_at hl 1 rfl) ?_
      refine lv_iload_n hx hb dX12_lane_21 rfl (lv_at hl 2 rfl) ?_
      refine wk_iV (As := [.int a, .int b]) (rest := []) (wc := [(mo, .inr (12, [.ref mpage, .int mo_pageMany, .int mo_law, .int mo_many, .int mo_asked, .int mo_looksAll, .int mo_changes, .int mo_rowsRead, .ref mkeys, .ref mvalues, .ref mheights, .ref mheats, .int mo_secondMany, .ref msecondKeys, .ref msecondValues, .ref msecondHeights, .ref msecondHeats, .int mo_foundAt, .int mo_foundLooks, .int mo_foundLane, .int mo_bestsDone, .ref msaved, .ref mbestHeights, .int mo_seenMany, .ref msights, .ref mby, .int mo_seedNow, .int mo_keptRow, .int mo_keptMany, .int mo_keptSecond, .int mo_keptAsked, .int mo_keptLooks, .int mo_keptChanges, .int mo_keptSeen, .ref mkeptKeys, .ref mkeptValues, .ref mkeptHeights, .ref mkeptHeats, .ref mkeptKeys2, .ref mkeptValues2, .ref mkeptHeights2, .ref mkeptHeats2, .ref mkeptSights, .long mo_hash])), (mvalues, .inl (cy, 8, .inl mvalues_a)), (mheights, .inl (cy, 8, .inl mheights_a))]) (wr := []) (n := 2) ⟨hx, hb, hml, hown, htb⟩ (c_X12_tellLane l D cy mo mpage mkeys mvalues mheights mheats msecondKeys msecondValues msecondHeights msecondHeats msaved mbestHeights msights mby mkeptKeys mkeptValues mkeptHeights mkeptHeats mkeptKeys2 mkeptValues2 mkeptHeights2 mkeptHeats2 mkeptSights mo_pageMany mo_law mo_many mo_asked mo_looksAll mo_changes mo_rowsRead mo_secondMany mo_foundAt mo_foundLooks mo_foundLane mo_bestsDone mo_seenMany mo_seedNow mo_keptRow mo_keptMany mo_keptSecond mo_keptAsked mo_keptLooks mo_keptChanges mo_keptSeen mo_hash mvalues_a mheights_a a b (show 0 ≤ mo_pageMany.toInt ∧ mo_pageMany.toInt ≤ 44 from by omega) (show 0 ≤ mo_many.toInt ∧ mo_many.toInt ≤ 8 from by omega) (show 0 ≤ mo_secondMany.toInt ∧ mo_secondMany.toInt ≤ 8 from by omega) (show (-1) ≤ mo_foundAt.toInt ∧ mo_foundAt.toInt ≤ 7 from by omega) (show 0 ≤ mo_seenMany.toInt ∧ mo_seenMany.toInt ≤ 6 from by omega) (show 0 ≤ mo_keptMany.toInt ∧ mo_keptMany.toInt ≤ 8 from by omega) (show 0 ≤ mo_keptSecond.toInt ∧ mo_keptSecond.toInt ≤ 8 from by omega) (show 0 ≤ mo_keptSeen.toInt ∧ mo_keptSeen.toInt ≤ 6 from by omega)) tw_1062 tw_1059 tw_1061 tw_45 tw_71 rfl rfl (by decide +kernel) ⟨Nat.le_of_ble_eq_true rfl, Nat.le_of_ble_eq_true rfl⟩ hK hP hD hS hA [2, 0, 1] [] rfl rfl rfl rfl (by decide) 0 (ci := 12) rfl rfl rfl hl.1 rfl (Nat.le_of_ble_eq_true rfl) dX12_lane_22 ⟨Nat.le_of_ble_eq_true rfl, Nat.le_of_ble_eq_true rfl⟩ (fun r_16 u_17 H locs hw_18 hP hD hS => ?_)
      refine W.widen (k := 0) (n := 0) (by decide) (by decide) ?_
      have hw_18 : r_16 = (fn_X12_tellLane mo_many mvalues_a mheights_a a b) := hw_18
      subst hw_18
      have hP : va_P D classes [(mo, .inr (12, [.ref mpage, .int mo_pageMany, .int mo_law, .int mo_many, .int mo_asked, .int mo_looksAll, .int mo_changes, .int mo_rowsRead, .ref mkeys, .ref mvalues, .ref mheights, .ref mheats, .int mo_secondMany, .ref msecondKeys, .ref msecondValues, .ref msecondHeights, .ref msecondHeats, .int mo_foundAt, .int mo_foundLooks, .int mo_foundLane, .int mo_bestsDone, .ref msaved, .ref mbestHeights, .int mo_seenMany, .ref msights, .ref mby, .int mo_seedNow, .int mo_keptRow, .int mo_keptMany, .int mo_keptSecond, .int mo_keptAsked, .int mo_keptLooks, .int mo_keptChanges, .int mo_keptSeen, .ref mkeptKeys, .ref mkeptValues, .ref mkeptHeights, .ref mkeptHeats, .ref mkeptKeys2, .ref mkeptValues2, .ref mkeptHeights2, .ref mkeptHeats2, .ref mkeptSights, .long mo_hash])), (mvalues, .inl (cy, 8, .inl mvalues_a)), (mheights, .inl (cy, 8, .inl mheights_a))] H := hP
      have hD : va_D A [(mo, .inr (12, [.ref mpage, .int mo_pageMany, .int mo_law, .int mo_many, .int mo_asked, .int mo_looksAll, .int mo_changes, .int mo_rowsRead, .ref mkeys, .ref mvalues, .ref mheights, .ref mheats, .int mo_secondMany, .ref msecondKeys, .ref msecondValues, .ref msecondHeights, .ref msecondHeats, .int mo_foundAt, .int mo_foundLooks, .int mo_foundLane, .int mo_bestsDone, .ref msaved, .ref mbestHeights, .int mo_seenMany, .ref msights, .ref mby, .int mo_seedNow, .int mo_keptRow, .int mo_keptMany, .int mo_keptSecond, .int mo_keptAsked, .int mo_keptLooks, .int mo_keptChanges, .int mo_keptSeen, .ref mkeptKeys, .ref mkeptValues, .ref mkeptHeights, .ref mkeptHeats, .ref mkeptKeys2, .ref mkeptValues2, .ref mkeptHeights2, .ref mkeptHeats2, .ref mkeptSights, .long mo_hash])), (mvalues, .inl (cy, 8, .inl mvalues_a)), (mheights, .inl (cy, 8, .inl mheights_a))] := hD
      refine lv_goto (tgt := 30) hx hb dX12_lane_25 (by decide) ?_
      refine W.widen (k := 0) (n := 0) (by decide) (by decide) ?_
      exact hret (fn_X12_tellLane mo_many mvalues_a mheights_a a b) () _ _ _ 30 (wk_sub9 (is := [0, 1, 2]) hP rfl) (hD.sub [0, 1, 2] rfl rfl) hS dX12_lane_30 hF.symm
def fn_X12_as (mo_law : Int32) (mo_many : Int32) (a : Int32) : Int32 := (if (wk_in a.toInt64 0 4) = 0 then (-102) else (if (fn_X12_lacks mo_many) = 0 then (if a = 0 then 1 else (if a = mo_law then 1 else (if a = 1 then (if mo_law = 4 then 1 else (-1)) else (-1)))) else (-103)))
theorem dX12_as_0 : decode cX12_as 0 = .ok (.iload_n 1, 1) := by decide +kernel
theorem dX12_as_1 : decode cX12_as 1 = .ok (.i2l, 1) := by decide +kernel
theorem dX12_as_2 : decode cX12_as 2 = .ok (.lconst 0, 1) := by decide +kernel
theorem dX12_as_3 : decode cX12_as 3 = .ok (.ldc2_w 235, 3) := by decide +kernel
theorem dX12_as_6 : decode cX12_as 6 = .ok (.invokestatic 82, 3) := by decide +kernel
theorem dX12_as_9 : decode cX12_as 9 = .ok (.ifCond .ne 6, 3) := by decide +kernel
theorem dX12_as_12 : decode cX12_as 12 = .ok (.bipush (-102), 2) := by decide +kernel
theorem dX12_as_14 : decode cX12_as 14 = .ok (.ireturn, 1) := by decide +kernel
theorem dX12_as_15 : decode cX12_as 15 = .ok (.aload_n 0, 1) := by decide +kernel
theorem dX12_as_16 : decode cX12_as 16 = .ok (.invokevirtual 185, 3) := by decide +kernel
theorem dX12_as_19 : decode cX12_as 19 = .ok (.ifCond .eq 6, 3) := by decide +kernel
theorem dX12_as_22 : decode cX12_as 22 = .ok (.bipush (-103), 2) := by decide +kernel
theorem dX12_as_24 : decode cX12_as 24 = .ok (.ireturn, 1) := by decide +kernel
theorem dX12_as_25 : decode cX12_as 25 = .ok (.iload_n 1, 1) := by decide +kernel
theorem dX12_as_26 : decode cX12_as 26 = .ok (.ifCond .eq 24, 3) := by decide +kernel
theorem dX12_as_29 : decode cX12_as 29 = .ok (.iload_n 1, 1) := by decide +kernel
theorem dX12_as_30 : decode cX12_as 30 = .ok (.aload_n 0, 1) := by decide +kernel
theorem dX12_as_31 : decode cX12_as 31 = .ok (.getfield 118, 3) := by decide +kernel
theorem dX12_as_34 : decode cX12_as 34 = .ok (.if_icmp .eq 16, 3) := by decide +kernel
theorem dX12_as_37 : decode cX12_as 37 = .ok (.iload_n 1, 1) := by decide +kernel
theorem dX12_as_38 : decode cX12_as 38 = .ok (.iconst 1, 1) := by decide +kernel
theorem dX12_as_39 : decode cX12_as 39 = .ok (.if_icmp .ne 15, 3) := by decide +kernel
theorem dX12_as_42 : decode cX12_as 42 = .ok (.aload_n 0, 1) := by decide +kernel
theorem dX12_as_43 : decode cX12_as 43 = .ok (.getfield 118, 3) := by decide +kernel
theorem dX12_as_46 : decode cX12_as 46 = .ok (.iconst 4, 1) := by decide +kernel
theorem dX12_as_47 : decode cX12_as 47 = .ok (.if_icmp .ne 7, 3) := by decide +kernel
theorem dX12_as_50 : decode cX12_as 50 = .ok (.iconst 1, 1) := by decide +kernel
theorem dX12_as_51 : decode cX12_as 51 = .ok (.goto 4, 3) := by decide +kernel
theorem dX12_as_54 : decode cX12_as 54 = .ok (.iconst 0, 1) := by decide +kernel
theorem dX12_as_55 : decode cX12_as 55 = .ok (.istore_n 2, 1) := by decide +kernel
theorem dX12_as_56 : decode cX12_as 56 = .ok (.iload_n 2, 1) := by decide +kernel
theorem dX12_as_57 : decode cX12_as 57 = .ok (.ifCond .eq 7, 3) := by decide +kernel
theorem dX12_as_60 : decode cX12_as 60 = .ok (.iconst 1, 1) := by decide +kernel
theorem dX12_as_61 : decode cX12_as 61 = .ok (.goto 4, 3) := by decide +kernel
theorem dX12_as_64 : decode cX12_as 64 = .ok (.iconst (-1), 1) := by decide +kernel
theorem dX12_as_65 : decode cX12_as 65 = .ok (.ireturn, 1) := by decide +kernel
set_option maxHeartbeats 4000000 in
set_option maxRecDepth 100000 in
theorem c_X12_as (l : Launch) (D : va_G) (cy : ClassId) (mo mpage mkeys mvalues mheights mheats msecondKeys msecondValues msecondHeights msecondHeats msaved mbestHeights msights mby mkeptKeys mkeptValues mkeptHeights mkeptHeats mkeptKeys2 mkeptValues2 mkeptHeights2 mkeptHeats2 mkeptSights : Nat) (mo_pageMany : Int32) (mo_law : Int32) (mo_many : Int32) (mo_asked : Int32) (mo_looksAll : Int32) (mo_changes : Int32) (mo_rowsRead : Int32) (mo_secondMany : Int32) (mo_foundAt : Int32) (mo_foundLooks : Int32) (mo_foundLane : Int32) (mo_bestsDone : Int32) (mo_seenMany : Int32) (mo_seedNow : Int32) (mo_keptRow : Int32) (mo_keptMany : Int32) (mo_keptSecond : Int32) (mo_keptAsked : Int32) (mo_keptLooks : Int32) (mo_keptChanges : Int32) (mo_keptSeen : Int32) (mo_hash : Int64) (a : Int32) (g_0 : 0 ≤ mo_pageMany.toInt ∧ mo_pageMany.toInt ≤ 44) (g_1 : 0 ≤ mo_many.toInt ∧ mo_many.toInt ≤ 8) (g_2 : 0 ≤ mo_secondMany.toInt ∧ mo_secondMany.toInt ≤ 8) (g_3 : (-1) ≤ mo_foundAt.toInt ∧ mo_foundAt.toInt ≤ 7) (g_4 : 0 ≤ mo_seenMany.toInt ∧ mo_seenMany.toInt ≤ 6) (g_5 : 0 ≤ mo_keptMany.toInt ∧ mo_keptMany.toInt ≤ 8) (g_6 : 0 ≤ mo_keptSecond.toInt ∧ mo_keptSecond.toInt ≤ 8) (g_7 : 0 ≤ mo_keptSeen.toInt ∧ mo_keptSeen.toInt ≤ 6) : wk_Ci l yX12_as cX12_as 3 (some .int) { frames := 1, cells := 0, slots := 0, locals := 25 } D cy [.ref mo, .int a] [(mo, .inr (12, [.ref mpage, .int mo_pageMany, .int mo_law, .int mo_many, .int mo_asked, .int mo_looksAll, .int mo_changes, .int mo_rowsRead, .ref mkeys, .ref mvalues, .ref mheights, .ref mheats, .int mo_secondMany, .ref msecondKeys, .ref msecondValues, .ref msecondHeights, .ref msecondHeats, .int mo_foundAt, .int mo_foundLooks, .int mo_foundLane, .int mo_bestsDone, .ref msaved, .ref mbestHeights, .int mo_seenMany, .ref msights, .ref mby, .int mo_seedNow, .int mo_keptRow, .int mo_keptMany, .int mo_keptSecond, .int mo_keptAsked, .int mo_keptLooks, .int mo_keptChanges, .int mo_keptSeen, .ref mkeptKeys, .ref mkeptValues, .ref mkeptHeights, .ref mkeptHeats, .ref mkeptKeys2, .ref mkeptValues2, .ref mkeptHeights2, .ref mkeptHeats2, .ref mkeptSights, .long mo_hash]))] 0 0 (fun (r : Int32) (u : Unit) => r = (fn_X12_as mo_law mo_many a)) (fun u => [(mo, .inr (12, [.ref mpage, .int mo_pageMany, .int mo_law, .int mo_many, .int mo_asked, .int mo_looksAll, .int mo_changes, .int mo_rowsRead, .ref mkeys, .ref mvalues, .ref mheights, .ref mheats, .int mo_secondMany, .ref msecondKeys, .ref msecondValues, .ref msecondHeights, .ref msecondHeats, .int mo_foundAt, .int mo_foundLooks, .int mo_foundLane, .int mo_bestsDone, .ref msaved, .ref mbestHeights, .int mo_seenMany, .ref msights, .ref mby, .int mo_seedNow, .int mo_keptRow, .int mo_keptMany, .int mo_keptSecond, .int mo_keptAsked, .int mo_keptLooks, .int mo_keptChanges, .int mo_keptSeen, .ref mkeptKeys, .ref mkeptValues, .ref mkeptHeights, .ref mkeptHeats, .ref mkeptKeys2, .ref mkeptValues2, .ref mkeptHeights2, .ref mkeptHeats2, .ref mkeptSights, .long mo_hash]))]) := by
  refine wk_mk2Ci (by decide) (Nat.le_of_ble_eq_true rfl) ?_
  intro p e s m args below meth c A ls Q B hA hK hP hD hS hl hret
  obtain ⟨hx, hb, hr, hlocks, hml, hown, htb, hin⟩ := B
  have hl : lv_has ls 3 [(0, .ref mo), (1, .int a)] := hl
  have hF : (fn_X12_as mo_law mo_many a) = (fn_X12_as mo_law mo_many a) := rfl
  conv at hF => rhs; unfold fn_X12_as
  refine lv_iload_n hx hb dX12_as_0 rfl (lv_at hl 1 rfl) ?_
  refine lv_i2l (v := a.toInt64) hx hb dX12_as_1 rfl ?_
  refine lv_lconst (v := 0) hx hb dX12_as_2 (by decide) ?_
  refine lv_ldc2 (v := 4) hx hb hown (htb _ tw_1075) dX12_as_3 ?_
  refine wk_iS (As := [.long a.toInt64, .long 0, .long 4]) (rest := []) (wc := []) (wr := [(mo, .inr (12, [.ref mpage, .int mo_pageMany, .int mo_law, .int mo_many, .int mo_asked, .int mo_looksAll, .int mo_changes, .int mo_rowsRead, .ref mkeys, .ref mvalues, .ref mheights, .ref mheats, .int mo_secondMany, .ref msecondKeys, .ref msecondValues, .ref msecondHeights, .ref msecondHeats, .int mo_foundAt, .int mo_foundLooks, .int mo_foundLane, .int mo_bestsDone, .ref msaved, .ref mbestHeights, .int mo_seenMany, .ref msights, .ref mby, .int mo_seedNow, .int mo_keptRow, .int mo_keptMany, .int mo_keptSecond, .int mo_keptAsked, .int mo_keptLooks, .int mo_keptChanges, .int mo_keptSeen, .ref mkeptKeys, .ref mkeptValues, .ref mkeptHeights, .ref mkeptHeats, .ref mkeptKeys2, .ref mkeptValues2, .ref mkeptHeights2, .ref mkeptHeats2, .ref mkeptSights, .long mo_hash]))]) (n := 3) ⟨hx, hb, hml, hown, htb⟩ (c_X12_in l D cy   a.toInt64 0 4 ) tw_903 tw_901 tw_902 tw_71 rfl rfl (by decide +kernel) ⟨Nat.le_of_ble_eq_true rfl, Nat.le_of_ble_eq_true rfl⟩ hK hP hD hS hA [] [0] rfl rfl rfl rfl (by decide) rfl hl.1 rfl (Nat.le_of_ble_eq_true rfl) dX12_as_6 ⟨Nat.le_of_ble_eq_true rfl, Nat.le_of_ble_eq_true rfl⟩ (fun r_1 u_2 H locs hw_3 hP hD hS => ?_)
  refine W.widen (k := 0) (n := 0) (by decide) (by decide) ?_
  obtain ⟨hw_3, k_4⟩ := hw_3
  have hw_3 : r_1 = (wk_in a.toInt64 0 4) := hw_3
  subst hw_3
  have k_4 : ((wk_in a.toInt64 0 4) = 0 ∨ (wk_in a.toInt64 0 4) = 1) := k_4
  have k_5 : 0 ≤ (wk_in a.toInt64 0 4).toInt ∧ (wk_in a.toInt64 0 4).toInt ≤ 1 := wk_b01 (by assumption)
  have k_6 : ((wk_in a.toInt64 0 4).toInt = 1 ∧ 0 ≤ a.toInt ∧ a.toInt ≤ 4) ∨ ((wk_in a.toInt64 0 4).toInt = 0 ∧ ¬ (0 ≤ a.toInt ∧ a.toInt ≤ 4)) := by have h9 := wk_inf a.toInt64 0 4; simp only [wk_64] at h9; exact h9
  have hP : va_P D classes [(mo, .inr (12, [.ref mpage, .int mo_pageMany, .int mo_law, .int mo_many, .int mo_asked, .int mo_looksAll, .int mo_changes, .int mo_rowsRead, .ref mkeys, .ref mvalues, .ref mheights, .ref mheats, .int mo_secondMany, .ref msecondKeys, .ref msecondValues, .ref msecondHeights, .ref msecondHeats, .int mo_foundAt, .int mo_foundLooks, .int mo_foundLane, .int mo_bestsDone, .ref msaved, .ref mbestHeights, .int mo_seenMany, .ref msights, .ref mby, .int mo_seedNow, .int mo_keptRow, .int mo_keptMany, .int mo_keptSecond, .int mo_keptAsked, .int mo_keptLooks, .int mo_keptChanges, .int mo_keptSeen, .ref mkeptKeys, .ref mkeptValues, .ref mkeptHeights, .ref mkeptHeats, .ref mkeptKeys2, .ref mkeptValues2, .ref mkeptHeights2, .ref mkeptHeats2, .ref mkeptSights, .long mo_hash]))] H := hP
  have hD : va_D A [(mo, .inr (12, [.ref mpage, .int mo_pageMany, .int mo_law, .int mo_many, .int mo_asked, .int mo_looksAll, .int mo_changes, .int mo_rowsRead, .ref mkeys, .ref mvalues, .ref mheights, .ref mheats, .int mo_secondMany, .ref msecondKeys, .ref msecondValues, .ref msecondHeights, .ref msecondHeats, .int mo_foundAt, .int mo_foundLooks, .int mo_foundLane, .int mo_bestsDone, .ref msaved, .ref mbestHeights, .int mo_seenMany, .ref msights, .ref mby, .int mo_seedNow, .int mo_keptRow, .int mo_keptMany, .int mo_keptSecond, .int mo_keptAsked, .int mo_keptLooks, .int mo_keptChanges, .int mo_keptSeen, .ref mkeptKeys, .ref mkeptValues, .ref mkeptHeights, .ref mkeptHeats, .ref mkeptKeys2, .ref mkeptValues2, .ref mkeptHeights2, .ref mkeptHeats2, .ref mkeptSights, .long mo_hash]))] := hD
  refine lv_if_ne (tgt := 15) hx hb dX12_as_9 (by decide) (fun c_7 => ?_) (fun c_7 => ?_)
  · have k_7 : ¬ (wk_in a.toInt64 0 4).toInt = 0 := wk_neq c_7
    rw [if_neg c_7] at hF
    refine lv_aload_n hx hb dX12_as_15 rfl (lv_at hl 0 rfl) ?_
    refine wk_iV (As := []) (rest := []) (wc := [(mo, .inr (12, [.ref mpage, .int mo_pageMany, .int mo_law, .int mo_many, .int mo_asked, .int mo_looksAll, .int mo_changes, .int mo_rowsRead, .ref mkeys, .ref mvalues, .ref mheights, .ref mheats, .int mo_secondMany, .ref msecondKeys, .ref msecondValues, .ref msecondHeights, .ref msecondHeats, .int mo_foundAt, .int mo_foundLooks, .int mo_foundLane, .int mo_bestsDone, .ref msaved, .ref mbestHeights, .int mo_seenMany, .ref msights, .ref mby, .int mo_seedNow, .int mo_keptRow, .int mo_keptMany, .int mo_keptSecond, .int mo_keptAsked, .int mo_keptLooks, .int mo_keptChanges, .int mo_keptSeen, .ref mkeptKeys, .ref mkeptValues, .ref mkeptHeights, .ref mkeptHeats, .ref mkeptKeys2, .ref mkeptValues2, .ref mkeptHeights2, .ref mkeptHeats2, .ref mkeptSights, .long mo_hash]))]) (wr := []) (n := 0) ⟨hx, hb, hml, hown, htb⟩ (c_X12_lacks l D cy mo mpage mkeys mvalues mheights mheats msecondKeys msecondValues msecondHeights msecondHeats msaved mbestHeights msights mby mkeptKeys mkeptValues mkeptHeights mkeptHeats mkeptKeys2 mkeptValues2 mkeptHeights2 mkeptHeats2 mkeptSights mo_pageMany mo_law mo_many mo_asked mo_looksAll mo_changes mo_rowsRead mo_secondMany mo_foundAt mo_foundLooks mo_foundLane mo_bestsDone mo_seenMany mo_seedNow mo_keptRow mo_keptMany mo_keptSecond mo_keptAsked mo_keptLooks mo_keptChanges mo_keptSeen mo_hash  (show 0 ≤ mo_pageMany.toInt ∧ mo_pageMany.toInt ≤ 44 from by omega) (show 0 ≤ mo_many.toInt ∧ mo_many.toInt ≤ 8 from by omega) (show 0 ≤ mo_secondMany.toInt ∧ mo_secondMany.toInt ≤ 8 from by omega) (show (-1) ≤ mo_foundAt.toInt ∧ mo_foundAt.toInt ≤ 7 from by omega) (show 0 ≤ mo_seenMany.toInt ∧ mo_seenMany.toInt ≤ 6 from by omega) (show 0 ≤ mo_keptMany.toInt ∧ mo_keptMany.toInt ≤ 8 from by omega) (show 0 ≤ mo_keptSecond.toInt ∧ mo_keptSecond.toInt ≤ 8 from by omega) (show 0 ≤ mo_keptSeen.toInt ∧ mo_keptSeen.toInt ≤ 6 from by omega)) tw_969 tw_966 tw_968 tw_29 tw_71 rfl rfl (by decide +kernel) ⟨Nat.le_of_ble_eq_true rfl, Nat.le_of_ble_eq_true rfl⟩ hK hP hD hS hA [0] [] rfl rfl rfl rfl (by decide) 0 (ci := 12) rfl rfl rfl hl.1 rfl (Nat.le_of_ble_eq_true rfl) dX12_as_16 ⟨Nat.le_of_ble_eq_true rfl, Nat.le_of_ble_eq_true rfl⟩ (fun r_8 u_9 H locs hw_10 hP hD hS => ?_)
    refine W.widen (k := 0) (n := 0) (by decide) (by decide) ?_
    obtain ⟨hw_10, k_11, k_12, k_13⟩ := hw_10
    have hw_10 : r_8 = (fn_X12_lacks mo_many) := hw_10
    subst hw_10
    have k_11 : ((fn_X12_lacks mo_many) = 0 ∨ (fn_X12_lacks mo_many) = 1) := k_11
    have k_12 : ((fn_X12_lacks mo_many).toInt = 0 ∨ mo_many.toInt = 0) := k_12
    have k_13 : ((fn_X12_lacks mo_many).toInt = 1 ∨ 1 ≤ mo_many.toInt) := k_13
    have k_14 : 0 ≤ (fn_X12_lacks mo_many).toInt ∧ (fn_X12_lacks mo_many).toInt ≤ 1 := wk_b01 (by assumption)
    have hP : va_P D classes [(mo, .inr (12, [.ref mpage, .int mo_pageMany, .int mo_law, .int mo_many, .int mo_asked, .int mo_looksAll, .int mo_changes, .int mo_rowsRead, .ref mkeys, .ref mvalues, .ref mheights, .ref mheats, .int mo_secondMany, .ref msecondKeys, .ref msecondValues, .ref msecondHeights, .ref msecondHeats, .int mo_foundAt, .int mo_foundLooks, .int mo_foundLane, .int mo_bestsDone, .ref msaved, .ref mbestHeights, .int mo_seenMany, .ref msights, .ref mby, .int mo_seedNow, .int mo_keptRow, .int mo_keptMany, .int mo_keptSecond, .int mo_keptAsked, .int mo_keptLooks, .int mo_keptChanges, .int mo_keptSeen, .ref mkeptKeys, .ref mkeptValues, .ref mkeptHeights, .ref mkeptHeats, .ref mkeptKeys2, .ref mkeptValues2, .ref mkeptHeights2, .ref mkeptHeats2, .ref mkeptSights, .long mo_hash]))] H := hP
    have hD : va_D A [(mo, .inr (12, [.ref mpage, .int mo_pageMany, .int mo_law, .int mo_many, .int mo_asked, .int mo_looksAll, .int mo_changes, .int mo_rowsRead, .ref mkeys, .ref mvalues, .ref mheights, .ref mheats, .int mo_secondMany, .ref msecondKeys, .ref msecondValues, .ref msecondHeights, .ref msecondHeats, .int mo_foundAt, .int mo_foundLooks, .int mo_foundLane, .int mo_bestsDone, .ref msaved, .ref mbestHeights, .int mo_seenMany, .ref msights, .ref mby, .int mo_seedNow, .int mo_keptRow, .int mo_keptMany, .int mo_keptSecond, .int mo_keptAsked, .int mo_keptLooks, .int mo_keptChanges, .int mo_keptSeen, .ref mkeptKeys, .ref mkeptValues, .ref mkeptHeights, .ref mkeptHeats, .ref mkeptKeys2, .ref mkeptValues2, .ref mkeptHeights2, .ref mkeptHeats2, .ref mkeptSights, .long mo_hash]))] := hD
    refine lv_if_eq (tgt := 25) hx hb dX12_as_19 (by decide) (fun c_15 => ?_) (fun c_15 => ?_)
    · have k_15 : (fn_X12_lacks mo_many).toInt = 0 := wk_eq c_15
      rw [if_pos c_15] at hF
      refine lv_iload_n hx hb dX12_as_25 rfl (lv_at hl 1 rfl) ?_
      refine lv_if_eq (tgt := 50) hx hb dX12_as_26 (by decide) (fun c_16 => ?_) (fun c_16 => ?_)
      · have k_16 : a.toInt = 0 := wk_eq c_16
        rw [if_pos c_16] at hF
        refine lv_iconst (v := 1) hx hb dX12_as_50 (by decide) ?_
        refine lv_goto (tgt := 55) hx hb dX12_as_51 (by decide) ?_
        refine lv_istore_n (lv' := [(2, .int 1), (0, .ref mo), (1, .int a)]) hx hb dX12_as_55 rfl hl (by decide) rfl (fun ls hl => ?_)
        refine lv_iload_n hx hb dX12_as_56 rfl (lv_at hl 0 rfl) ?_
        refine lv_if_eq (tgt := 64) hx hb dX12_as_57 (by decide) (fun c_17 => absurd c_17 (by decide)) (fun _ => ?_)
        refine lv_iconst (v := 1) hx hb dX12_as_60 (by decide) ?_
        refine lv_goto (tgt := 65) hx hb dX12_as_61 (by decide) ?_
        refine W.widen (k := 0) (n := 0) (by decide) (by decide) ?_
        exact hret 1 () _ _ _ 65 (wk_sub9 (is := [0]) hP rfl) (hD.sub [0] rfl rfl) hS dX12_as_65 hF.symm
      · have k_16 : ¬ a.toInt = 0 := wk_neq c_16
        rw [if_neg c_16] at hF
        refine lv_iload_n hx hb dX12_as_29 rfl (lv_at hl 1 rfl) ?_
        refine lv_aload_n hx hb dX12_as_30 rfl (lv_at hl 0 rfl) ?_
        refine va_get (D := D) (ci := 12) (v := .int mo_law) (C := RX12) (T := TX12) (N := 44) hx hb htb inX12 hown hK hP 0 rfl rfl 2 (by decide) (htb _ tw_765) (fun _ h9 => h9) rfl dX12_as_31 ?_
        refine lv_icmp_eq (tgt := 50) hx hb dX12_as_34 (by decide) (fun c_18 => ?_) (fun c_18 => ?_)
        · have k_18 : a.toInt = mo_law.toInt := wk_eq c_18
          rw [if_pos c_18] at hF
          refine lv_iconst (v := 1) hx hb dX12_as_50 (by decide) ?_
          refine lv_goto (tgt := 55) hx hb dX12_as_51 (by decide) ?_
          refine lv_istore_n (lv' := [(2, .int 1), (0, .ref mo), (1, .int a)]) hx hb dX12_as_55 rfl hl (by decide) rfl (fun ls hl => ?_)
          refine lv_iload_n hx hb dX12_as_56 rfl (lv_at hl 0 rfl) ?_
          refine lv_if_eq (tgt := 64) hx hb dX12_as_57 (by decide) (fun c_19 => absurd c_19 (by decide)) (fun _ => ?_)
          refine lv_iconst (v := 1) hx hb dX12_as_60 (by decide) ?_
          refine lv_goto (tgt := 65) hx hb dX12_as_61 (by decide) ?_
          refine W.widen (k := 0) (n := 0) (by decide) (by decide) ?_
          exact hret 1 () _ _ _ 65 (wk_sub9 (is := [0]) hP rfl) (hD.sub [0] rfl rfl) hS dX12_as_65 hF.symm
        · have k_18 : ¬ a.toInt = mo_law.toInt := wk_neq c_18
          rw [if_neg c_18] at hF
          refine lv_iload_n hx hb dX12_as_37 rfl (lv_at hl 1 rfl) ?_
          refine lv_iconst (v := 1) hx hb dX12_as_38 (by decide) ?_
          refine lv_icmp_ne (tgt := 54) hx hb dX12_as_39 (by decide) (fun c_20 => ?_) (fun c_20 => ?_)
          · have k_20 : ¬ a.toInt = 1 := wk_neq c_20
            rw [if_neg c_20] at hF
            refine lv_iconst (v := 0) hx hb dX12_as_54 (by decide) ?_
            refine lv_istore_n (lv' := [(2, .int 0), (0, .ref mo), (1, .int a)]) hx hb dX12_as_55 rfl hl (by decide) rfl (fun ls hl => ?_)
            refine lv_iload_n hx hb dX12_as_56 rfl (lv_at hl 0 rfl) ?_
            refine lv_if_eq (tgt := 64) hx hb dX12_as_57 (by decide) (fun _ => ?_) (fun c_21 => absurd (by decide) c_21)
            refine lv_iconst (v := (-1)) hx hb dX12_as_64 (by decide) ?_
            refine W.widen (k := 0) (n := 0) (by decide) (by decide) ?_
            exact hret (-1) () _ _ _ 65 (wk_sub9 (is := [0]) hP rfl) (hD.sub [0] rfl rfl) hS dX12_as_65 hF.symm
          · have k_20 : a.toInt = 1 := wk_eq c_20
            rw [if_pos c_20] at hF
            refine lv_aload_n hx hb dX12_as_42 rfl (lv_at hl 0 rfl) ?_
            refine va_get (D := D) (ci := 12) (v := .int mo_law) (C := RX12) (T := TX12) (N := 44) hx hb htb inX12 hown hK hP 0 rfl rfl 2 (by decide) (htb _ tw_765) (fun _ h9 => h9) rfl dX12_as_43 ?_
            refine lv_iconst (v := 4) hx hb dX12_as_46 (by decide) ?_
            refine lv_icmp_ne (tgt := 54) hx hb dX12_as_47 (by decide) (fun c_22 => ?_) (fun c_22 => ?_)
            · have k_22 : ¬ mo_law.toInt = 4 := wk_neq c_22
              rw [if_neg c_22] at hF
              refine lv_iconst (v := 0) hx hb dX12_as_54 (by decide) ?_
              refine lv_istore_n (lv' := [(2, .int 0), (0, .ref mo), (1, .int a)]) hx hb dX12_as_55 rfl hl (by decide) rfl (fun ls hl => ?_)
              refine lv_iload_n hx hb dX12_as_56 rfl (lv_at hl 0 rfl) ?_
              refine lv_if_eq (tgt := 64) hx hb dX12_as_57 (by decide) (fun _ => ?_) (fun c_23 => absurd (by decide) c_23)
              refine lv_iconst (v := (-1)) hx hb dX12_as_64 (by decide) ?_
              refine W.widen (k := 0) (n := 0) (by decide) (by decide) ?_
              exact hret (-1) () _ _ _ 65 (wk_sub9 (is := [0]) hP rfl) (hD.sub [0] rfl rfl) hS dX12_as_65 hF.symm
            · have k_22 : mo_law.toInt = 4 := wk_eq c_22
              rw [if_pos c_22] at hF
              refine lv_iconst (v := 1) hx hb dX12_as_50 (by decide) ?_
              refine lv_goto (tgt := 55) hx hb dX12_as_51 (by decide) ?_
              refine lv_istore_n (lv' := [(2, .int 1), (0, .ref mo), (1, .int a)]) hx hb dX12_as_55 rfl hl (by decide) rfl (fun ls hl => ?_)
              refine lv_iload_n hx hb dX12_as_56 rfl (lv_at hl 0 rfl) ?_
              refine lv_if_eq (tgt := 64) hx hb dX12_as_57 (by decide) (fun c_24 => absurd c_24 (by decide)) (fun _ => ?_)
              refine lv_iconst (v := 1) hx hb dX12_as_60 (by decide) ?_
              refine lv_goto (tgt := 65) hx hb dX12_as_61 (by decide) ?_
              refine W.widen (k := 0) (n := 0) (by decide) (by decide) ?_
              exact hret 1 () _ _ _ 65 (wk_sub9 (is := [0]) hP rfl) (hD.sub [0] rfl rfl) hS dX12_as_65 hF.symm
    · have k_15 : ¬ (fn_X12_lacks mo_many).toInt = 0 := wk_neq c_15
      rw [if_neg c_15] at hF
      refine lv_bipush (v := (-103)) hx hb dX12_as_22 (by decide) ?_
      refine W.widen (k := 0) (n := 0) (by decide) (by decide) ?_
      exact hret (-103) () _ _ _ 24 (wk_sub9 (is := [0]) hP rfl) (hD.sub [0] rfl rfl) hS dX12_as_24 hF.symm
  · have k_7 : (wk_in a.toInt64 0 4).toInt = 0 := wk_eq c_7
    rw [if_pos c_7] at hF
    refine lv_bipush (v := (-102)) hx hb dX12_as_12 (by decide) ?_
    refine W.widen (k := 0) (n := 0) (by decide) (by decide) ?_
    exact hret (-102) () _ _ _ 14 (wk_sub9 (is := [0]) hP rfl) (hD.sub [0] rfl rfl) hS dX12_as_14 hF.symm
def fn_X12_tapeAt (mo_law : Int32) (mo_many : Int32) (mkeys_a : Nat → Int32) (mvalues_a : Nat → Int32) (mheights_a : Nat → Int32) (a : Int32) : Int32 := (if (2 : Int32) ≤ a then (if mo_law = 0 then (if mo_many ≤ ((a - 2) / 5) then (-1) else (if ((a - 2) / 5) = (mo_many - 1) then (if ((a - 2) - (a - 2) / 5 * 5) = 4 then (-1) else (if ((a - 2) - (a - 2) / 5 * 5) = 4 then default else (if ((a - 2) - (a - 2) / 5 * 5) = 0 then (48 + ((mkeys_a ((a - 2) / 5).toNatClampNeg) / 10)) else (if ((a - 2) - (a - 2) / 5 * 5) = 1 then (48 + ((mkeys_a ((a - 2) / 5).toNatClampNeg) - (mkeys_a ((a - 2) / 5).toNatClampNeg) / 10 * 10)) else (if ((a - 2) - (a - 2) / 5 * 5) = 2 then (48 + (mvalues_a ((a - 2) / 5).toNatClampNeg)) else (48 + (mheights_a ((a - 2) / 5).toNatClampNeg))))))) else (if ((a - 2) - (a - 2) / 5 * 5) = 4 then 44 else (if ((a - 2) - (a - 2) / 5 * 5) = 0 then (48 + ((mkeys_a ((a - 2) / 5).toNatClampNeg) / 10)) else (if ((a - 2) - (a - 2) / 5 * 5) = 1 then (48 + ((mkeys_a ((a - 2) / 5).toNatClampNeg) - (mkeys_a ((a - 2) / 5).toNatClampNeg) / 10 * 10)) else (if ((a - 2) - (a - 2) / 5 * 5) = 2 then (48 + (mvalues_a ((a - 2) / 5).toNatClampNeg)) else (48 + (mheights_a ((a - 2) / 5).toNatClampNeg)))))))) else (if mo_many ≤ ((a - 2) / 4) then (-1) else (if ((a - 2) / 4) = (mo_many - 1) then (if ((a - 2) - (a - 2) / 4 * 4) = 3 then (-1) else (if ((a - 2) - (a - 2) / 4 * 4) = 3 then default else (if ((a - 2) - (a - 2) / 4 * 4) = 0 then (48 + ((mkeys_a ((a - 2) / 4).toNatClampNeg) / 10)) else (if ((a - 2) - (a - 2) / 4 * 4) = 1 then (48 + ((mkeys_a ((a - 2) / 4).toNatClampNeg) - (mkeys_a ((a - 2) / 4).toNatClampNeg) / 10 * 10)) else (if ((a - 2) - (a - 2) / 4 * 4) = 2 then (48 + (mvalues_a ((a - 2) / 4).toNatClampNeg)) else default))))) else (if ((a - 2) - (a - 2) / 4 * 4) = 3 then 44 else (if ((a - 2) - (a - 2) / 4 * 4) = 0 then (48 + ((mkeys_a ((a - 2) / 4).toNatClampNeg) / 10)) else (if ((a - 2) - (a - 2) / 4 * 4) = 1 then (48 + ((mkeys_a ((a - 2) / 4).toNatClampNeg) - (mkeys_a ((a - 2) / 4).toNatClampNeg) / 10 * 10)) else (if ((a - 2) - (a - 2) / 4 * 4) = 2 then (48 + (mvalues_a ((a - 2) / 4).toNatClampNeg)) else default))))))) else (if a = 0 then (fn_X12_signOf mo_law) else 59))
theorem dX12_tapeAt_0 : decode cX12_tapeAt 0 = .ok (.iload_n 1, 1) := by decide +kernel
theorem dX12_tapeAt_1 : decode cX12_tapeAt 1 = .ok (.iconst 2, 1) := by decide +kernel
theorem dX12_tapeAt_2 : decode cX12_tapeAt 2 = .ok (.if_icmp .ge 20, 3) := by decide +kernel
theorem dX12_tapeAt_5 : decode cX12_tapeAt 5 = .ok (.iload_n 1, 1) := by decide +kernel
theorem dX12_tapeAt_6 : decode cX12_tapeAt 6 = .ok (.ifCond .ne 13, 3) := by decide +kernel
theorem dX12_tapeAt_9 : decode cX12_tapeAt 9 = .ok (.aload_n 0, 1) := by decide +kernel
theorem dX12_tapeAt_10 : decode cX12_tapeAt 10 = .ok (.getfield 118, 3) := by decide +kernel
theorem dX12_tapeAt_13 : decode cX12_tapeAt 13 = .ok (.invokestatic 237, 3) := by decide +kernel
theorem dX12_tapeAt_16 : decode cX12_tapeAt 16 = .ok (.goto 5, 3) := by decide +kernel
theorem dX12_tapeAt_19 : decode cX12_tapeAt 19 = .ok (.bipush 59, 2) := by decide +kernel
theorem dX12_tapeAt_21 : decode cX12_tapeAt 21 = .ok (.ireturn, 1) := by decide +kernel
theorem dX12_tapeAt_22 : decode cX12_tapeAt 22 = .ok (.aload_n 0, 1) := by decide +kernel
theorem dX12_tapeAt_23 : decode cX12_tapeAt 23 = .ok (.getfield 118, 3) := by decide +kernel
theorem dX12_tapeAt_26 : decode cX12_tapeAt 26 = .ok (.ifCond .ne 7, 3) := by decide +kernel
theorem dX12_tapeAt_29 : decode cX12_tapeAt 29 = .ok (.iconst 5, 1) := by decide +kernel
theorem dX12_tapeAt_30 : decode cX12_tapeAt 30 = .ok (.goto 4, 3) := by decide +kernel
theorem dX12_tapeAt_33 : decode cX12_tapeAt 33 = .ok (.iconst 4, 1) := by decide +kernel
theorem dX12_tapeAt_34 : decode cX12_tapeAt 34 = .ok (.istore_n 2, 1) := by decide +kernel
theorem dX12_tapeAt_35 : decode cX12_tapeAt 35 = .ok (.iload_n 1, 1) := by decide +kernel
theorem dX12_tapeAt_36 : decode cX12_tapeAt 36 = .ok (.iconst 2, 1) := by decide +kernel
theorem dX12_tapeAt_37 : decode cX12_tapeAt 37 = .ok (.isub, 1) := by decide +kernel
theorem dX12_tapeAt_38 : decode cX12_tapeAt 38 = .ok (.iload_n 2, 1) := by decide +kernel
theorem dX12_tapeAt_39 : decode cX12_tapeAt 39 = .ok (.idiv, 1) := by decide +kernel
theorem dX12_tapeAt_40 : decode cX12_tapeAt 40 = .ok (.istore_n 3, 1) := by decide +kernel
theorem dX12_tapeAt_41 : decode cX12_tapeAt 41 = .ok (.iload_n 1, 1) := by decide +kernel
theorem dX12_tapeAt_42 : decode cX12_tapeAt 42 = .ok (.iconst 2, 1) := by decide +kernel
theorem dX12_tapeAt_43 : decode cX12_tapeAt 43 = .ok (.isub, 1) := by decide +kernel
theorem dX12_tapeAt_44 : decode cX12_tapeAt 44 = .ok (.iload_n 2, 1) := by decide +kernel
theorem dX12_tapeAt_45 : decode cX12_tapeAt 45 = .ok (.irem, 1) := by decide +kernel
theorem dX12_tapeAt_46 : decode cX12_tapeAt 46 = .ok (.istore 4, 2) := by decide +kernel
theorem dX12_tapeAt_48 : decode cX12_tapeAt 48 = .ok (.iload_n 3, 1) := by decide +kernel
theorem dX12_tapeAt_49 : decode cX12_tapeAt 49 = .ok (.aload_n 0, 1) := by decide +kernel
theorem dX12_tapeAt_50 : decode cX12_tapeAt 50 = .ok (.getfield 121, 3) := by decide +kernel
theorem dX12_tapeAt_53 : decode cX12_tapeAt 53 = .ok (.if_icmp .ge 21, 3) := by decide +kernel
theorem dX12_tapeAt_56 : decode cX12_tapeAt 56 = .ok (.iload_n 3, 1) := by decide +kernel
theorem dX12_tapeAt_57 : decode cX12_tapeAt 57 = .ok (.aload_n 0, 1) := by decide +kernel
theorem dX12_tapeAt_58 : decode cX12_tapeAt 58 = .ok (.getfield 121, 3) := by decide +kernel
theorem dX12_tapeAt_61 : decode cX12_tapeAt 61 = .ok (.iconst 1, 1) := by decide +kernel
theorem dX12_tapeAt_62 : decode cX12_tapeAt 62 = .ok (.isub, 1) := by decide +kernel
theorem dX12_tapeAt_63 : decode cX12_tapeAt 63 = .ok (.if_icmp .ne 13, 3) := by decide +kernel
theorem dX12_tapeAt_66 : decode cX12_tapeAt 66 = .ok (.iload 4, 2) := by decide +kernel
theorem dX12_tapeAt_68 : decode cX12_tapeAt 68 = .ok (.iload_n 2, 1) := by decide +kernel
theorem dX12_tapeAt_69 : decode cX12_tapeAt 69 = .ok (.iconst 1, 1) := by decide +kernel
theorem dX12_tapeAt_70 : decode cX12_tapeAt 70 = .ok (.isub, 1) := by decide +kernel
theorem dX12_tapeAt_71 : decode cX12_tapeAt 71 = .ok (.if_icmp .ne 5, 3) := by decide +kernel
theorem dX12_tapeAt_74 : decode cX12_tapeAt 74 = .ok (.iconst (-1), 1) := by decide +kernel
theorem dX12_tapeAt_75 : decode cX12_tapeAt 75 = .ok (.ireturn, 1) := by decide +kernel
theorem dX12_tapeAt_76 : decode cX12_tapeAt 76 = .ok (.iload 4, 2) := by decide +kernel
theorem dX12_tapeAt_78 : decode cX12_tapeAt 78 = .ok (.iload_n 2, 1) := by decide +kernel
theorem dX12_tapeAt_79 : decode cX12_tapeAt 79 = .ok (.iconst 1, 1) := by decide +kernel
theorem dX12_tapeAt_80 : decode cX12_tapeAt 80 = .ok (.isub, 1) := by decide +kernel
theorem dX12_tapeAt_81 : decode cX12_tapeAt 81 = .ok (.if_icmp .ne 6, 3) := by decide +kernel
theorem dX12_tapeAt_84 : decode cX12_tapeAt 84 = .ok (.bipush 44, 2) := by decide +kernel
theorem dX12_tapeAt_86 : decode cX12_tapeAt 86 = .ok (.ireturn, 1) := by decide +kernel
theorem dX12_tapeAt_87 : decode cX12_tapeAt 87 = .ok (.iload 4, 2) := by decide +kernel
theorem dX12_tapeAt_89 : decode cX12_tapeAt 89 = .ok (.ifCond .ne 15, 3) := by decide +kernel
theorem dX12_tapeAt_92 : decode cX12_tapeAt 92 = .ok (.aload_n 0, 1) := by decide +kernel
theorem dX12_tapeAt_93 : decode cX12_tapeAt 93 = .ok (.getfield 13, 3) := by decide +kernel
theorem dX12_tapeAt_96 : decode cX12_tapeAt 96 = .ok (.iload_n 3, 1) := by decide +kernel
theorem dX12_tapeAt_97 : decode cX12_tapeAt 97 = .ok (.iaload, 1) := by decide +kernel
theorem dX12_tapeAt_98 : decode cX12_tapeAt 98 = .ok (.bipush 10, 2) := by decide +kernel
theorem dX12_tapeAt_100 : decode cX12_tapeAt 100 = .ok (.idiv, 1) := by decide +kernel
theorem dX12_tapeAt_101 : decode cX12_tapeAt 101 = .ok (.goto 42, 3) := by decide +kernel
theorem dX12_tapeAt_104 : decode cX12_tapeAt 104 = .ok (.iload 4, 2) := by decide +kernel
theorem dX12_tapeAt_106 : decode cX12_tapeAt 106 = .ok (.iconst 1, 1) := by decide +kernel
theorem dX12_tapeAt_107 : decode cX12_tapeAt 107 = .ok (.if_icmp .ne 15, 3) := by decide +kernel
theorem dX12_tapeAt_110 : decode cX12_tapeAt 110 = .ok (.aload_n 0, 1) := by decide +kernel
theorem dX12_tapeAt_111 : decode cX12_tapeAt 111 = .ok (.getfield 13, 3) := by decide +kernel
theorem dX12_tapeAt_114 : decode cX12_tapeAt 114 = .ok (.iload_n 3, 1) := by decide +kernel
theorem dX12_tapeAt_115 : decode cX12_tapeAt 115 = .ok (.iaload, 1) := by decide +kernel
theorem dX12_tapeAt_116 : decode cX12_tapeAt 116 = .ok (.bipush 10, 2) := by decide +kernel
theorem dX12_tapeAt_118 : decode cX12_tapeAt 118 = .ok (.irem, 1) := by decide +kernel
theorem dX12_tapeAt_119 : decode cX12_tapeAt 119 = .ok (.goto 24, 3) := by decide +kernel
theorem dX12_tapeAt_122 : decode cX12_tapeAt 122 = .ok (.iload 4, 2) := by decide +kernel
theorem dX12_tapeAt_124 : decode cX12_tapeAt 124 = .ok (.iconst 2, 1) := by decide +kernel
theorem dX12_tapeAt_125 : decode cX12_tapeAt 125 = .ok (.if_icmp .ne 12, 3) := by decide +kernel
theorem dX12_tapeAt_128 : decode cX12_tapeAt 128 = .ok (.aload_n 0, 1) := by decide +kernel
theorem dX12_tapeAt_129 : decode cX12_tapeAt 129 = .ok (.getfield 16, 3) := by decide +kernel
theorem dX12_tapeAt_132 : decode cX12_tapeAt 132 = .ok (.iload_n 3, 1) := by decide +kernel
theorem dX12_tapeAt_133 : decode cX12_tapeAt 133 = .ok (.iaload, 1) := by decide +kernel
theorem dX12_tapeAt_134 : decode cX12_tapeAt 134 = .ok (.goto 9, 3) := by decide +kernel
theorem dX12_tapeAt_137 : decode cX12_tapeAt 137 = .ok (.aload_n 0, 1) := by decide +kernel
theorem dX12_tapeAt_138 : decode cX12_tapeAt 138 = .ok (.getfield 19, 3) := by decide +kernel
theorem dX12_tapeAt_141 : decode cX12_tapeAt 141 = .ok (.iload_n 3, 1) := by decide +kernel
theorem dX12_tapeAt_142 : decode cX12_tapeAt 142 = .ok (.iaload, 1) := by decide +kernel
theorem dX12_tapeAt_143 : decode cX12_tapeAt 143 = .ok (.istore 5, 2) := by decide +kernel
theorem dX12_tapeAt_145 : decode cX12_tapeAt 145 = .ok (.bipush 48, 2) := by decide +kernel
theorem dX12_tapeAt_147 : decode cX12_tapeAt 147 = .ok (.iload 5, 2) := by decide +kernel
theorem dX12_tapeAt_149 : decode cX12_tapeAt 149 = .ok (.iadd, 1) := by decide +kernel
theorem dX12_tapeAt_150 : decode cX12_tapeAt 150 = .ok (.ireturn, 1) := by decide +kernel
set_option maxHeartbeats 4000000 in
set_option maxRecDepth 100000 in
theorem c_X12_tapeAt (l : Launch) (D : va_G) (cy : ClassId) (mo mpage mkeys mvalues mheights mheats msecondKeys msecondValues msecondHeights msecondHeats msaved mbestHeights msights mby mkeptKeys mkeptValues mkeptHeights mkeptHeats mkeptKeys2 mkeptValues2 mkeptHeights2 mkeptHeats2 mkeptSights : Nat) (mo_pageMany : Int32) (mo_law : Int32) (mo_many : Int32) (mo_asked : Int32) (mo_looksAll : Int32) (mo_changes : Int32) (mo_rowsRead : Int32) (mo_secondMany : Int32) (mo_foundAt : Int32) (mo_foundLooks : Int32) (mo_foundLane : Int32) (mo_bestsDone : Int32) (mo_seenMany : Int32) (mo_seedNow : Int32) (mo_keptRow : Int32) (mo_keptMany : Int32) (mo_keptSecond : Int32) (mo_keptAsked : Int32) (mo_keptLooks : Int32) (mo_keptChanges : Int32) (mo_keptSeen : Int32) (mo_hash : Int64) (mkeys_a : Nat → Int32) (mvalues_a : Nat → Int32) (mheights_a : Nat → Int32) (a : Int32) (g_0 : 0 ≤ mo_pageMany.toInt ∧ mo_pageMany.toInt ≤ 44) (g_1 : 0 ≤ mo_many.toInt ∧ mo_many.toInt ≤ 8) (g_2 : 0 ≤ mo_secondMany.toInt ∧ mo_secondMany.toInt ≤ 8) (g_3 : (-1) ≤ mo_foundAt.toInt ∧ mo_foundAt.toInt ≤ 7) (g_4 : 0 ≤ mo_seenMany.toInt ∧ mo_seenMany.toInt ≤ 6) (g_5 : 0 ≤ mo_keptMany.toInt ∧ mo_keptMany.toInt ≤ 8) (g_6 : 0 ≤ mo_keptSecond.toInt ∧ mo_keptSecond.toInt ≤ 8) (g_7 : 0 ≤ mo_keptSeen.toInt ∧ mo_keptSeen.toInt ≤ 6) (g_8 : 0 ≤ a.toInt ∧ a.toInt ≤ 60) : wk_Ci l yX12_tapeAt cX12_tapeAt 6 (some .int) { frames := 1, cells := 0, slots := 0, locals := 20 } D cy [.ref mo, .int a] [(mo, .inr (12, [.ref mpage, .int mo_pageMany, .int mo_law, .int mo_many, .int mo_asked, .int mo_looksAll, .int mo_changes, .int mo_rowsRead, .ref mkeys, .ref mvalues, .ref mheights, .ref mheats, .int mo_secondMany, .ref msecondKeys, .ref msecondValues, .ref msecondHeights, .ref msecondHeats, .int mo_foundAt, .int mo_foundLooks, .int mo_foundLane, .int mo_bestsDone, .ref msaved, .ref mbestHeights, .int mo_seenMany, .ref msights, .ref mby, .int mo_seedNow, .int mo_keptRow, .int mo_keptMany, .int mo_keptSecond, .int mo_keptAsked, .int mo_keptLooks, .int mo_keptChanges, .int mo_keptSeen, .ref mkeptKeys, .ref mkeptValues, .ref mkeptHeights, .ref mkeptHeats, .ref mkeptKeys2, .ref mkeptValues2, .ref mkeptHeights2, .ref mkeptHeats2, .ref mkeptSights, .long mo_hash])), (mkeys, .inl (cy, 8, .inl mkeys_a)), (mvalues, .inl (cy, 8, .inl mvalues_a)), (mheights, .inl (cy, 8, .inl mheights_a))] 0 0 (fun (r : Int32) (u : Unit) => r = (fn_X12_tapeAt mo_law mo_many mkeys_a mvalues_a mheights_a a) ∧ (r.toInt = -1 ∨ a.toInt ≤ 41)) (fun u => [(mo, .inr (12, [.ref mpage, .int mo_pageMany, .int mo_law, .int mo_many, .int mo_asked, .int mo_looksAll, .int mo_changes, .int mo_rowsRead, .ref mkeys, .ref mvalues, .ref mheights, .ref mheats, .int mo_secondMany, .ref msecondKeys, .ref msecondValues, .ref msecondHeights, .ref msecondHeats, .int mo_foundAt, .int mo_foundLooks, .int mo_foundLane, .int mo_bestsDone, .ref msaved, .ref mbestHeights, .int mo_seenMany, .ref msights, .ref mby, .int mo_seedNow, .int mo_keptRow, .int mo_keptMany, .int mo_keptSecond, .int mo_keptAsked, .int mo_keptLooks, .int mo_keptChanges, .int mo_keptSeen, .ref mkeptKeys, .ref mkeptValues, .ref mkeptHeights, .ref mkeptHeats, .ref mkeptKeys2, .ref mkeptValues2, .ref mkeptHeights2, .ref mkeptHeats2, .ref mkeptSights, .long mo_hash])), (mkeys, .inl (cy, 8, .inl mkeys_a)), (mvalues, .inl (cy, 8, .inl mvalues_a)), (mheights, .inl (cy, 8, .inl mheights_a))]) := by
  refine wk_mk2Ci (by decide) (Nat.le_of_ble_eq_true rfl) ?_
  intro p e s m args below meth c A ls Q B hA hK hP hD hS hl hret
  obtain ⟨hx, hb, hr, hlocks, hml, hown, htb, hin⟩ := B
  have hl : lv_has ls 6 [(0, .ref mo), (1, .int a)] := hl
  have hF : (fn_X12_tapeAt mo_law mo_many mkeys_a mvalues_a mheights_a a) = (fn_X12_tapeAt mo_law mo_many mkeys_a mvalues_a mheights_a a) := rfl
  conv at hF => rhs; unfold fn_X12_tapeAt
  refine lv_iload_n hx hb dX12_tapeAt_0 rfl (lv_at hl 1 rfl) ?_
  refine lv_iconst (v := 2) hx hb dX12_tapeAt_1 (by decide) ?_
  refine lv_icmp_ge (tgt := 22) hx hb dX12_tapeAt_2 (by decide) (fun c_1 => ?_) (fun c_1 => ?_)
  · have k_1 : 2 ≤ a.toInt := wk_le c_1
    rw [if_pos c_1] at hF
    refine lv_aload_n hx hb dX12_tapeAt_22 rfl (lv_at hl 0 rfl) ?_
    refine va_get (D := D) (ci := 12) (v := .int mo_law) (C := RX12) (T := TX12) (N := 44) hx hb htb inX12 hown hK hP 0 rfl rfl 2 (by decide) (htb _ tw_765) (fun _ h9 => h9) rfl dX12_tapeAt_23 ?_
    refine lv_if_ne (tgt := 33) hx hb dX12_tapeAt_26 (by decide) (fun c_2 => ?_) (fun c_2 => ?_)
    · have k_2 : ¬ mo_law.toInt = 0 := wk_neq c_2
      rw [if_neg c_2] at hF
      refine lv_iconst (v := 4) hx hb dX12_tapeAt_33 (by decide) ?_
      refine lv_istore_n (lv' := [(2, .int 4), (0, .ref mo), (1, .int a)]) hx hb dX12_tapeAt_34 rfl hl (by decide) rfl (fun ls hl => ?_)
      refine lv_iload_n hx hb dX12_tapeAt_35 rfl (lv_at hl 2 rfl) ?_
      refine lv_iconst (v := 2) hx hb dX12_tapeAt_36 (by decide) ?_
      refine lv_isub hx hb dX12_tapeAt_37 ?_
      have k_3 : (a - 2).toInt = a.toInt - 2 := wk_sub a.toInt 2 rfl rfl (by omega) (by omega)
      refine lv_iload_n hx hb dX12_tapeAt_38 rfl (lv_at hl 0 rfl) ?_
      refine lv_idiv hx hb dX12_tapeAt_39 (by decide) ?_
      have k_4 : ((a - 2) / 4).toInt = (a - 2).toInt / 4 := wk_div 4 rfl (by omega) (by decide)
      refine lv_istore_n (lv' := [(3, .int ((a - 2) / 4)), (2, .int 4), (0, .ref mo), (1, .int a)]) hx hb dX12_tapeAt_40 rfl hl (by decide) rfl (fun ls hl => ?_)
      refine lv_iload_n hx hb dX12_tapeAt_41 rfl (lv_at hl 3 rfl) ?_
      refine lv_iconst (v := 2) hx hb dX12_tapeAt_42 (by decide) ?_
      refine lv_isub hx hb dX12_tapeAt_43 ?_
      have k_5 : (a - 2).toInt = a.toInt - 2 := wk_sub a.toInt 2 rfl rfl (by omega) (by omega)
      refine lv_iload_n hx hb dX12_tapeAt_44 rfl (lv_at hl 1 rfl) ?_
      refine lv_irem hx hb dX12_tapeAt_45 (by decide) ?_
      have k_6 : ((a - 2) - (a - 2) / 4 * 4).toInt = (a - 2).toInt % 4 := wk_rem 4 rfl (by omega) (by decide)
      refine lv_istore (lv' := [(4, .int ((a - 2) - (a - 2) / 4 * 4)), (3, .int ((a - 2) / 4)), (2, .int 4), (0, .ref mo), (1, .int a)]) hx hb dX12_tapeAt_46 hl (by decide) rfl (fun ls hl => ?_)
      refine lv_iload_n hx hb dX12_tapeAt_48 rfl (lv_at hl 1 rfl) ?_
      refine lv_aload_n hx hb dX12_tapeAt_49 rfl (lv_at hl 3 rfl) ?_
      refine va_get (D := D) (ci := 12) (v := .int mo_many) (C := RX12) (T := TX12) (N := 44) hx hb htb inX12 hown hK hP 0 rfl rfl 3 (by decide) (htb _ tw_766) (fun _ h9 => h9) rfl dX12_tapeAt_50 ?_
      refine lv_icmp_ge (tgt := 74) hx hb dX12_tapeAt_53 (by decide) (fun c_7 => ?_) (fun c_7 => ?_)
      · have k_7 : mo_many.toInt ≤ ((a - 2) / 4).toInt := wk_le c_7
        rw [if_pos c_7] at hF
        refine lv_iconst (v := (-1)) hx hb dX12_tapeAt_74 (by decide) ?_
        refine W.widen (k := 0) (n := 0) (by decide) (by decide) ?_
        exact hret (-1) () _ _ _ 75 (wk_sub9 (is := [0, 1, 2, 3]) hP rfl) (hD.sub [0, 1, 2, 3] rfl rfl) hS dX12_tapeAt_75 ⟨hF.symm, (show ((-1) = -1 ∨ a.toInt ≤ 41) from by omega)⟩
      · have k_7 : ¬ mo_many.toInt ≤ ((a - 2) / 4).toInt := wk_nle c_7
        rw [if_neg c_7] at hF
        refine lv_iload_n hx hb dX12_tapeAt_56 rfl (lv_at hl 1 rfl) ?_
        refine lv_aload_n hx hb dX12_tapeAt_57 rfl (lv_at hl 3 rfl) ?_
        refine va_get (D := D) (ci := 12) (v := .int mo_many) (C := RX12) (T := TX12) (N := 44) hx hb htb inX12 hown hK hP 0 rfl rfl 3 (by decide) (htb _ tw_766) (fun _ h9 => h9) rfl dX12_tapeAt_58 ?_
        refine lv_iconst (v := 1) hx hb dX12_tapeAt_61 (by decide) ?_
        refine lv_isub hx hb dX12_tapeAt_62 ?_
        have k_8 : (mo_many - 1).toInt = mo_many.toInt - 1 := wk_sub mo_many.toInt 1 rfl rfl (by omega) (by omega)
        refine lv_icmp_ne (tgt := 76) hx hb dX12_tapeAt_63 (by decide) (fun c_9 => ?_) (fun c_9 => ?_)
        · have k_9 : ¬ ((a - 2) / 4).toInt = (mo_many - 1).toInt := wk_neq c_9
          rw [if_neg c_9] at hF
          refine lv_iload hx hb dX12_tapeAt_76 (lv_at hl 0 rfl) ?_
          refine lv_iload_n hx hb dX12_tapeAt_78 rfl (lv_at hl 2 rfl) ?_
          refine lv_iconst (v := 1) hx hb dX12_tapeAt_79 (by decide) ?_
          refine lv_isub hx hb dX12_tapeAt_80 ?_
          refine wk_toi (show ((4 - 1) : Int32) = 3 by decide) ?_
          refine lv_icmp_ne (tgt := 87) hx hb dX12_tapeAt_81 (by decide) (fun c_10 => ?_) (fun c_10 => ?_)
          · have k_10 : ¬ ((a - 2) - (a - 2) / 4 * 4).toInt = 3 := wk_neq c_10
            rw [if_neg c_10] at hF
            refine lv_iload hx hb dX12_tapeAt_87 (lv_at hl 0 rfl) ?_
            refine lv_if_ne (tgt := 104) hx hb dX12_tapeAt_89 (by decide) (fun c_11 => ?_) (fun c_11 => ?_)
            · have k_11 : ¬ ((a - 2) - (a - 2) / 4 * 4).toInt = 0 := wk_neq c_11
              rw [if_neg c_11] at hF
              refine lv_iload hx hb dX12_tapeAt_104 (lv_at hl 0 rfl) ?_
              refine lv_iconst (v := 1) hx hb dX12_tapeAt_106 (by decide) ?_
              refine lv_icmp_ne (tgt := 122) hx hb dX12_tapeAt_107 (by decide) (fun c_12 => ?_) (fun c_12 => ?_)
              · have k_12 : ¬ ((a - 2) - (a - 2) / 4 * 4).toInt = 1 := wk_neq c_12
                rw [if_neg c_12] at hF
                refine lv_iload hx hb dX12_tapeAt_122 (lv_at hl 0 rfl) ?_
                refine lv_iconst (v := 2) hx hb dX12_tapeAt_124 (by decide) ?_
                refine lv_icmp_ne (tgt := 137) hx hb dX12_tapeAt_125 (by decide) (fun c_13 => ?_) (fun c_13 => ?_)
                · have k_13 : ¬ ((a - 2) - (a - 2) / 4 * 4).toInt = 2 := wk_neq c_13
                  rw [if_neg c_13] at hF
                  exfalso; omega
                · have k_13 : ((a - 2) - (a - 2) / 4 * 4).toInt = 2 := wk_eq c_13
                  rw [if_pos c_13] at hF
                  refine lv_aload_n hx hb dX12_tapeAt_128 rfl (lv_at hl 3 rfl) ?_
                  refine va_get (D := D) (ci := 12) (v := .ref mvalues) (C := RX12) (T := TX12) (N := 44) hx hb htb inX12 hown hK hP 0 rfl rfl 9 (by decide) (htb _ tw_772) (fun _ h9 => h9) rfl dX12_tapeAt_129 ?_
                  refine lv_iload_n hx hb dX12_tapeAt_132 rfl (lv_at hl 1 rfl) ?_
                  refine va_iald hx hb hK hP 2 0 rfl rfl (show vp_in ((a - 2) / 4) 8 from vp_in_iff.mpr (show 0 ≤ ((a - 2) / 4).toInt ∧ ((a - 2) / 4).toInt < ((8 : Nat) : Int) from by omega)) dX12_tapeAt_133 ?_
                  refine lv_goto (tgt := 143) hx hb dX12_tapeAt_134 (by decide) ?_
                  refine lv_istore (lv' := [(5, .int (mvalues_a ((a - 2) / 4).toNatClampNeg)), (4, .int ((a - 2) - (a - 2) / 4 * 4)), (3, .int ((a - 2) / 4)), (2, .int 4), (0, .ref mo), (1, .int a)]) hx hb dX12_tapeAt_143 hl (by decide) rfl (fun ls hl => ?_)
                  refine lv_bipush (v := 48) hx hb dX12_tapeAt_145 (by decide) ?_
                  refine lv_iload hx hb dX12_tapeAt_147 (lv_at hl 0 rfl) ?_
                  refine lv_iadd hx hb dX12_tapeAt_149 ?_
                  refine W.widen (k := 0) (n := 0) (by decide) (by decide) ?_
                  exact hret (48 + (mvalues_a ((a - 2) / 4).toNatClampNeg)) () _ _ _ 150 (wk_sub9 (is := [0, 1, 2, 3]) hP rfl) (hD.sub [0, 1, 2, 3] rfl rfl) hS dX12_tapeAt_150 ⟨hF.symm, (show ((48 + (mvalues_a ((a - 2) / 4).toNatClampNeg)).toInt = -1 ∨ a.toInt ≤ 41) from by omega)⟩
              · have k_12 : ((a - 2) - (a - 2) / 4 * 4).toInt = 1 := wk_eq c_12
                rw [if_pos c_12] at hF
                refine lv_aload_n hx hb dX12_tapeAt_110 rfl (lv_at hl 3 rfl) ?_
                refine va_get (D := D) (ci := 12) (v := .ref mkeys) (C := RX12) (T := TX12) (N := 44) hx hb htb inX12 hown hK hP 0 rfl rfl 8 (by decide) (htb _ tw_771) (fun _ h9 => h9) rfl dX12_tapeAt_111 ?_
                refine lv_iload_n hx hb dX12_tapeAt_114 rfl (lv_at hl 1 rfl) ?_
                refine va_iald hx hb hK hP 1 0 rfl rfl (show vp_in ((a - 2) / 4) 8 from vp_in_iff.mpr (show 0 ≤ ((a - 2) / 4).toInt ∧ ((a - 2) / 4).toInt < ((8 : Nat) : Int) from by omega)) dX12_tapeAt_115 ?_
                refine lv_bipush (v := 10) hx hb dX12_tapeAt_116 (by decide) ?_
                refine lv_irem hx hb dX12_tapeAt_118 (by decide) ?_
                refine lv_goto (tgt := 143) hx hb dX12_tapeAt_119 (by decide) ?_
                refine lv_istore (lv' := [(5, .int ((mkeys_a ((a - 2) / 4).toNatClampNeg) - (mkeys_a ((a - 2) / 4).toNatClampNeg) / 10 * 10)), (4, .int ((a - 2) - (a - 2) / 4 * 4)), (3, .int ((a - 2) / 4)), (2, .int 4), (0, .ref mo), (1, .int a)]) hx hb dX12_tapeAt_143 hl (by decide) rfl (fun ls hl => ?_)
                refine lv_bipush (v := 48) hx hb dX12_tapeAt_145 (by decide) ?_
                refine lv_iload hx hb dX12_tapeAt_147 (lv_at hl 0 rfl) ?_
                refine lv_iadd hx hb dX12_tapeAt_149 ?_
                refine W.widen (k := 0) (n := 0) (by decide) (by decide) ?_
                exact hret (48 + ((mkeys_a ((a - 2) / 4).toNatClampNeg) - (mkeys_a ((a - 2) / 4).toNatClampNeg) / 10 * 10)) () _ _ _ 150 (wk_sub9 (is := [0, 1, 2, 3]) hP rfl) (hD.sub [0, 1, 2, 3] rfl rfl) hS dX12_tapeAt_150 ⟨hF.symm, (show ((48 + ((mkeys_a ((a - 2) / 4).toNatClampNeg) - (mkeys_a ((a - 2) / 4).toNatClampNeg) / 10 * 10)).toInt = -1 ∨ a.toInt ≤ 41) from by omega)⟩
            · have k_11 : ((a - 2) - (a - 2) / 4 * 4).toInt = 0 := wk_eq c_11
              rw [if_pos c_11] at hF
              refine lv_aload_n hx hb dX12_tapeAt_92 rfl (lv_at hl 3 rfl) ?_
              refine va_get (D := D) (ci := 12) (v := .ref mkeys) (C := RX12) (T := TX12) (N := 44) hx hb htb inX12 hown hK hP 0 rfl rfl 8 (by decide) (htb _ tw_771) (fun _ h9 => h9) rfl dX12_tapeAt_93 ?_
              refine lv_iload_n hx hb dX12_tapeAt_96 rfl (lv_at hl 1 rfl) ?_
              refine va_iald hx hb hK hP 1 0 rfl rfl (show vp_in ((a - 2) / 4) 8 from vp_in_iff.mpr (show 0 ≤ ((a - 2) / 4).toInt ∧ ((a - 2) / 4).toInt < ((8 : Nat) : Int) from by omega)) dX12_tapeAt_97 ?_
              refine lv_bipush (v := 10) hx hb dX12_tapeAt_98 (by decide) ?_
              refine lv_idiv hx hb dX12_tapeAt_100 (by decide) ?_
              refine lv_goto (tgt := 143) hx hb dX12_tapeAt_101 (by decide) ?_
              refine lv_istore (lv' := [(5, .int ((mkeys_a ((a - 2) / 4).toNatClampNeg) / 10)), (4, .int ((a - 2) - (a - 2) / 4 * 4)), (3, .int ((a - 2) / 4)), (2, .int 4), (0, .ref mo), (1, .int a)]) hx hb dX12_tapeAt_143 hl (by decide) rfl (fun ls hl => ?_)
              refine lv_bipush (v := 48) hx hb dX12_tapeAt_145 (by decide) ?_
              refine lv_iload hx hb dX12_tapeAt_147 (lv_at hl 0 rfl) ?_
              refine lv_iadd hx hb dX12_tapeAt_149 ?_
              refine W.widen (k := 0) (n := 0) (by decide) (by decide) ?_
              exact hret (48 + ((mkeys_a ((a - 2) / 4).toNatClampNeg) / 10)) () _ _ _ 150 (wk_sub9 (is := [0, 1, 2, 3]) hP rfl) (hD.sub [0, 1, 2, 3] rfl rfl) hS dX12_tapeAt_150 ⟨hF.symm, (show ((48 + ((mkeys_a ((a - 2) / 4).toNatClampNeg) / 10)).toInt = -1 ∨ a.toInt ≤ 41) from by omega)⟩
          · have k_10 : ((a - 2) - (a - 2) / 4 * 4).toInt = 3 := wk_eq c_10
            rw [if_pos c_10] at hF
            refine lv_bipush (v := 44) hx hb dX12_tapeAt_84 (by decide) ?_
            refine W.widen (k := 0) (n := 0) (by decide) (by decide) ?_
            exact hret 44 () _ _ _ 86 (wk_sub9 (is := [0, 1, 2, 3]) hP rfl) (hD.sub [0, 1, 2, 3] rfl rfl) hS dX12_tapeAt_86 ⟨hF.symm, (show (44 = -1 ∨ a.toInt ≤ 41) from by omega)⟩
        · have k_9 : ((a - 2) / 4).toInt = (mo_many - 1).toInt := wk_eq c_9
          rw [if_pos c_9] at hF
          refine lv_iload hx hb dX12_tapeAt_66 (lv_at hl 0 rfl) ?_
          refine lv_iload_n hx hb dX12_tapeAt_68 rfl (lv_at hl 2 rfl) ?_
          refine lv_iconst (v := 1) hx hb dX12_tapeAt_69 (by decide) ?_
          refine lv_isub hx hb dX12_tapeAt_70 ?_
          refine wk_toi (show ((4 - 1) : Int32) = 3 by decide) ?_
          refine lv_icmp_ne (tgt := 76) hx hb dX12_tapeAt_71 (by decide) (fun c_14 => ?_) (fun c_14 => ?_)
          · have k_14 : ¬ ((a - 2) - (a - 2) / 4 * 4).toInt = 3 := wk_neq c_14
            rw [if_neg c_14] at hF
            refine lv_iload hx hb dX12_tapeAt_76 (lv_at hl 0 rfl) ?_
            refine lv_iload_n hx hb dX12_tapeAt_78 rfl (lv_at hl 2 rfl) ?_
            refine lv_iconst (v := 1) hx hb dX12_tapeAt_79 (by decide) ?_
            refine lv_isub hx hb dX12_tapeAt_80 ?_
            refine wk_toi (show ((4 - 1) : Int32) = 3 by decide) ?_
            refine lv_icmp_ne (tgt := 87) hx hb dX12_tapeAt_81 (by decide) (fun c_15 => ?_) (fun c_15 => ?_)
            · have k_15 : ¬ ((a - 2) - (a - 2) / 4 * 4).toInt = 3 := wk_neq c_15
              rw [if_neg c_15] at hF
              refine lv_iload hx hb dX12_tapeAt_87 (lv_at hl 0 rfl) ?_
              refine lv_if_ne (tgt := 104) hx hb dX12_tapeAt_89 (by decide) (fun c_16 => ?_) (fun c_16 => ?_)
              · have k_16 : ¬ ((a - 2) - (a - 2) / 4 * 4).toInt = 0 := wk_neq c_16
                rw [if_neg c_16] at hF
                refine lv_iload hx hb dX12_tapeAt_104 (lv_at hl 0 rfl) ?_
                refine lv_iconst (v := 1) hx hb dX12_tapeAt_106 (by decide) ?_
                refine lv_icmp_ne (tgt := 122) hx hb dX12_tapeAt_107 (by decide) (fun c_17 => ?_) (fun c_17 => ?_)
                · have k_17 : ¬ ((a - 2) - (a - 2) / 4 * 4).toInt = 1 := wk_neq c_17
                  rw [if_neg c_17] at hF
                  refine lv_iload hx hb dX12_tapeAt_122 (lv_at hl 0 rfl) ?_
                  refine lv_iconst (v := 2) hx hb dX12_tapeAt_124 (by decide) ?_
                  refine lv_icmp_ne (tgt := 137) hx hb dX12_tapeAt_125 (by decide) (fun c_18 => ?_) (fun c_18 => ?_)
                  · have k_18 : ¬ ((a - 2) - (a - 2) / 4 * 4).toInt = 2 := wk_neq c_18
                    rw [if_neg c_18] at hF
                    exfalso; omega
                  · have k_18 : ((a - 2) - (a - 2) / 4 * 4).toInt = 2 := wk_eq c_18
                    rw [if_pos c_18] at hF
                    refine lv_aload_n hx hb dX12_tapeAt_128 rfl (lv_at hl 3 rfl) ?_
                    refine va_get (D := D) (ci := 12) (v := .ref mvalues) (C := RX12) (T := TX12) (N := 44) hx hb htb inX12 hown hK hP 0 rfl rfl 9 (by decide) (htb _ tw_772) (fun _ h9 => h9) rfl dX12_tapeAt_129 ?_
                    refine lv_iload_n hx hb dX12_tapeAt_132 rfl (lv_at hl 1 rfl) ?_
                    refine va_iald hx hb hK hP 2 0 rfl rfl (show vp_in ((a - 2) / 4) 8 from vp_in_iff.mpr (show 0 ≤ ((a - 2) / 4).toInt ∧ ((a - 2) / 4).toInt < ((8 : Nat) : Int) from by omega)) dX12_tapeAt_133 ?_
                    refine lv_goto (tgt := 143) hx hb dX12_tapeAt_134 (by decide) ?_
                    refine lv_istore (lv' := [(5, .int (mvalues_a ((a - 2) / 4).toNatClampNeg)), (4, .int ((a - 2) - (a - 2) / 4 * 4)), (3, .int ((a - 2) / 4)), (2, .int 4), (0, .ref mo), (1, .int a)]) hx hb dX12_tapeAt_143 hl (by decide) rfl (fun ls hl => ?_)
                    refine lv_bipush (v := 48) hx hb dX12_tapeAt_145 (by decide) ?_
                    refine lv_iload hx hb dX12_tapeAt_147 (lv_at hl 0 rfl) ?_
                    refine lv_iadd hx hb dX12_tapeAt_149 ?_
                    refine W.widen (k := 0) (n := 0) (by decide) (by decide) ?_
                    exact hret (48 + (mvalues_a ((a - 2) / 4).toNatClampNeg)) () _ _ _ 150 (wk_sub9 (is := [0, 1, 2, 3]) hP rfl) (hD.sub [0, 1, 2, 3] rfl rfl) hS dX12_tapeAt_150 ⟨hF.symm, (show ((48 + (mvalues_a ((a - 2) / 4).toNatClampNeg)).toInt = -1 ∨ a.toInt ≤ 41) from by omega)⟩
                · have k_17 : ((a - 2) - (a - 2) / 4 * 4).toInt = 1 := wk_eq c_17
                  rw [if_pos c_17] at hF
                  refine lv_aload_n hx hb dX12_tapeAt_110 rfl (lv_at hl 3 rfl) ?_
                  refine va_get (D := D) (ci := 12) (v := .ref mkeys) (C := RX12) (T := TX12) (N := 44) hx hb htb inX12 hown hK hP 0 rfl rfl 8 (by decide) (htb _ tw_771) (fun _ h9 => h9) rfl dX12_tapeAt_111 ?_
                  refine lv_iload_n hx hb dX12_tapeAt_114 rfl (lv_at hl 1 rfl) ?_
                  refine va_iald hx hb hK hP 1 0 rfl rfl (show vp_in ((a - 2) / 4) 8 from vp_in_iff.mpr (show 0 ≤ ((a - 2) / 4).toInt ∧ ((a - 2) / 4).toInt < ((8 : Nat) : Int) from by omega)) dX12_tapeAt_115 ?_
                  refine lv_bipush (v := 10) hx hb dX12_tapeAt_116 (by decide) ?_
                  refine lv_irem hx hb dX12_tapeAt_118 (by decide) ?_
                  refine lv_goto (tgt := 143) hx hb dX12_tapeAt_119 (by decide) ?_
                  refine lv_istore (lv' := [(5, .int ((mkeys_a ((a - 2) / 4).toNatClampNeg) - (mkeys_a ((a - 2) / 4).toNatClampNeg) / 10 * 10)), (4, .int ((a - 2) - (a - 2) / 4 * 4)), (3, .int ((a - 2) / 4)), (2, .int 4), (0, .ref mo), (1, .int a)]) hx hb dX12_tapeAt_143 hl (by decide) rfl (fun ls hl => ?_)
                  refine lv_bipush (v := 48) hx hb dX12_tapeAt_145 (by decide) ?_
                  refine lv_iload hx hb dX12_tapeAt_147 (lv_at hl 0 rfl) ?_
                  refine lv_iadd hx hb dX12_tapeAt_149 ?_
                  refine W.widen (k := 0) (n := 0) (by decide) (by decide) ?_
                  exact hret (48 + ((mkeys_a ((a - 2) / 4).toNatClampNeg) - (mkeys_a ((a - 2) / 4).toNatClampNeg) / 10 * 10)) () _ _ _ 150 (wk_sub9 (is := [0, 1, 2, 3]) hP rfl) (hD.sub [0, 1, 2, 3] rfl rfl) hS dX12_tapeAt_150 ⟨hF.symm, (show ((48 + ((mkeys_a ((a - 2) / 4).toNatClampNeg) - (mkeys_a ((a - 2) / 4).toNatClampNeg) / 10 * 10)).toInt = -1 ∨ a.toInt ≤ 41) from by omega)⟩
              · have k_16 : ((a - 2) - (a - 2) / 4 * 4).toInt = 0 := wk_eq c_16
                rw [if_pos c_16] at hF
                refine lv_aload_n hx hb dX12_tapeAt_92 rfl (lv_at hl 3 rfl) ?_
                refine va_get (D := D) (ci := 12) (v := .ref mkeys) (C := RX12) (T := TX12) (N := 44) hx hb htb inX12 hown hK hP 0 rfl rfl 8 (by decide) (htb _ tw_771) (fun _ h9 => h9) rfl dX12_tapeAt_93 ?_
                refine lv_iload_n hx hb dX12_tapeAt_96 rfl (lv_at hl 1 rfl) ?_
                refine va_iald hx hb hK hP 1 0 rfl rfl (show vp_in ((a - 2) / 4) 8 from vp_in_iff.mpr (show 0 ≤ ((a - 2) / 4).toInt ∧ ((a - 2) / 4).toInt < ((8 : Nat) : Int) from by omega)) dX12_tapeAt_97 ?_
                refine lv_bipush (v := 10) hx hb dX12_tapeAt_98 (by decide) ?_
                refine lv_idiv hx hb dX12_tapeAt_100 (by decide) ?_
                refine lv_goto (tgt := 143) hx hb dX12_tapeAt_101 (by decide) ?_
                refine lv_istore (lv' := [(5, .int ((mkeys_a ((a - 2) / 4).toNatClampNeg) / 10)), (4, .int ((a - 2) - (a - 2) / 4 * 4)), (3, .int ((a - 2) / 4)), (2, .int 4), (0, .ref mo), (1, .int a)]) hx hb dX12_tapeAt_143 hl (by decide) rfl (fun ls hl => ?_)
                refine lv_bipush (v := 48) hx hb dX12_tapeAt_145 (by decide) ?_
                refine lv_iload hx hb dX12_tapeAt_147 (lv_at hl 0 rfl) ?_
                refine lv_iadd hx hb dX12_tapeAt_149 ?_
                refine W.widen (k := 0) (n := 0) (by decide) (by decide) ?_
                exact hret (48 + ((mkeys_a ((a - 2) / 4).toNatClampNeg) / 10)) () _ _ _ 150 (wk_sub9 (is := [0, 1, 2, 3]) hP rfl) (hD.sub [0, 1, 2, 3] rfl rfl) hS dX12_tapeAt_150 ⟨hF.symm, (show ((48 + ((mkeys_a ((a - 2) / 4).toNatClampNeg) / 10)).toInt = -1 ∨ a.toInt ≤ 41) from by omega)⟩
            · have k_15 : ((a - 2) - (a - 2) / 4 * 4).toInt = 3 := wk_eq c_15
              rw [if_pos c_15] at hF
              exfalso; omega
          · have k_14 : ((a - 2) - (a - 2) / 4 * 4).toInt = 3 := wk_eq c_14
            rw [if_pos c_14] at hF
            refine lv_iconst (v := (-1)) hx hb dX12_tapeAt_74 (by decide) ?_
            refine W.widen (k := 0) (n := 0) (by decide) (by decide) ?_
            exact hret (-1) () _ _ _ 75 (wk_sub9 (is := [0, 1, 2, 3]) hP rfl) (hD.sub [0, 1, 2, 3] rfl rfl) hS dX12_tapeAt_75 ⟨hF.symm, (show ((-1) = -1 ∨ a.toInt ≤ 41) from by omega)⟩
    · have k_2 : mo_law.toInt = 0 := wk_eq c_2
      rw [if_pos c_2] at hF
      refine lv_iconst (v := 5) hx hb dX12_tapeAt_29 (by decide) ?_
      refine lv_goto (tgt := 34) hx hb dX12_tapeAt_30 (by decide) ?_
      refine lv_istore_n (lv' := [(2, .int 5), (0, .ref mo), (1, .int a)]) hx hb dX12_tapeAt_34 rfl hl (by decide) rfl (fun ls hl => ?_)
      refine lv_iload_n hx hb dX12_tapeAt_35 rfl (lv_at hl 2 rfl) ?_
      refine lv_iconst (v := 2) hx hb dX12_tapeAt_36 (by decide) ?_
      refine lv_isub hx hb dX12_tapeAt_37 ?_
      have k_19 : (a - 2).toInt = a.toInt - 2 := wk_sub a.toInt 2 rfl rfl (by omega) (by omega)
      refine lv_iload_n hx hb dX12_tapeAt_38 rfl (lv_at hl 0 rfl) ?_
      refine lv_idiv hx hb dX12_tapeAt_39 (by decide) ?_
      have k_20 : ((a - 2) / 5).toInt = (a - 2).toInt / 5 := wk_div 5 rfl (by omega) (by decide)
      refine lv_istore_n (lv' := [(3, .int ((a - 2) / 5)), (2, .int 5), (0, .ref mo), (1, .int a)]) hx hb dX12_tapeAt_40 rfl hl (by decide) rfl (fun ls hl => ?_)
      refine lv_iload_n hx hb dX12_tapeAt_41 rfl (lv_at hl 3 rfl) ?_
      refine lv_iconst (v := 2) hx hb dX12_tapeAt_42 (by decide) ?_
      refine lv_isub hx hb dX12_tapeAt_43 ?_
      have k_21 : (a - 2).toInt = a.toInt - 2 := wk_sub a.toInt 2 rfl rfl (by omega) (by omega)
      refine lv_iload_n hx hb dX12_tapeAt_44 rfl (lv_at hl 1 rfl) ?_
      refine lv_irem hx hb dX12_tapeAt_45 (by decide) ?_
      have k_22 : ((a - 2) - (a - 2) / 5 * 5).toInt = (a - 2).toInt % 5 := wk_rem 5 rfl (by omega) (by decide)
      refine lv_istore (lv' := [(4, .int ((a - 2) - (a - 2) / 5 * 5)), (3, .int ((a - 2) / 5)), (2, .int 5), (0, .ref mo), (1, .int a)]) hx hb dX12_tapeAt_46 hl (by decide) rfl (fun ls hl => ?_)
      refine lv_iload_n hx hb dX12_tapeAt_48 rfl (lv_at hl 1 rfl) ?_
      refine lv_aload_n hx hb dX12_tapeAt_49 rfl (lv_at hl 3 rfl) ?_
      refine va_get (D := D) (ci := 12) (v := .int mo_many) (C := RX12) (T := TX12) (N := 44) hx hb htb inX12 hown hK hP 0 rfl rfl 3 (by decide) (htb _ tw_766) (fun _ h9 => h9) rfl dX12_tapeAt_50 ?_
      refine lv_icmp_ge (tgt := 74) hx hb dX12_tapeAt_53 (by decide) (fun c_23 => ?_) (fun c_23 => ?_)
      · have k_23 : mo_many.toInt ≤ ((a - 2) / 5).toInt := wk_le c_23
        rw [if_pos c_23] at hF
        refine lv_iconst (v := (-1)) hx hb dX12_tapeAt_74 (by decide) ?_
        refine W.widen (k := 0) (n := 0) (by decide) (by decide) ?_
        exact hret (-1) () _ _ _ 75 (wk_sub9 (is := [0, 1, 2, 3]) hP rfl) (hD.sub [0, 1, 2, 3] rfl rfl) hS dX12_tapeAt_75 ⟨hF.symm, (show ((-1) = -1 ∨ a.toInt ≤ 41) from by omega)⟩
      · have k_23 : ¬ mo_many.toInt ≤ ((a - 2) / 5).toInt := wk_nle c_23
        rw [if_neg c_23] at hF
        refine lv_iload_n hx hb dX12_tapeAt_56 rfl (lv_at hl 1 rfl) ?_
        refine lv_aload_n hx hb dX12_tapeAt_57 rfl (lv_at hl 3 rfl) ?_
        refine va_get (D := D) (ci := 12) (v := .int mo_many) (C := RX12) (T := TX12) (N := 44) hx hb htb inX12 hown hK hP 0 rfl rfl 3 (by decide) (htb _ tw_766) (fun _ h9 => h9) rfl dX12_tapeAt_58 ?_
        refine lv_iconst (v := 1) hx hb dX12_tapeAt_61 (by decide) ?_
        refine lv_isub hx hb dX12_tapeAt_62 ?_
        have k_24 : (mo_many - 1).toInt = mo_many.toInt - 1 := wk_sub mo_many.toInt 1 rfl rfl (by omega) (by omega)
        refine lv_icmp_ne (tgt := 76) hx hb dX12_tapeAt_63 (by decide) (fun c_25 => ?_) (fun c_25 => ?_)
        · have k_25 : ¬ ((a - 2) / 5).toInt = (mo_many - 1).toInt := wk_neq c_25
          rw [if_neg c_25] at hF
          refine lv_iload hx hb dX12_tapeAt_76 (lv_at hl 0 rfl) ?_
          refine lv_iload_n hx hb dX12_tapeAt_78 rfl (lv_at hl 2 rfl) ?_
          refine lv_iconst (v := 1) hx hb dX12_tapeAt_79 (by decide) ?_
          refine lv_isub hx hb dX12_tapeAt_80 ?_
          refine wk_toi (show ((5 - 1) : Int32) = 4 by decide) ?_
          refine lv_icmp_ne (tgt := 87) hx hb dX12_tapeAt_81 (by decide) (fun c_26 => ?_) (fun c_26 => ?_)
          · have k_26 : ¬ ((a - 2) - (a - 2) / 5 * 5).toInt = 4 := wk_neq c_26
            rw [if_neg c_26] at hF
            refine lv_iload hx hb dX12_tapeAt_87 (lv_at hl 0 rfl) ?_
            refine lv_if_ne (tgt := 104) hx hb dX12_tapeAt_89 (by decide) (fun c_27 => ?_) (fun c_27 => ?_)
            · have k_27 : ¬ ((a - 2) - (a - 2) / 5 * 5).toInt = 0 := wk_neq c_27
              rw [if_neg c_27] at hF
              refine lv_iload hx hb dX12_tapeAt_104 (lv_at hl 0 rfl) ?_
              refine lv_iconst (v := 1) hx hb dX12_tapeAt_106 (by decide) ?_
              refine lv_icmp_ne (tgt := 122) hx hb dX12_tapeAt_107 (by decide) (fun c_28 => ?_) (fun c_28 => ?_)
              · have k_28 : ¬ ((a - 2) - (a - 2) / 5 * 5).toInt = 1 := wk_neq c_28
                rw [if_neg c_28] at hF
                refine lv_iload hx hb dX12_tapeAt_122 (lv_at hl 0 rfl) ?_
                refine lv_iconst (v := 2) hx hb dX12_tapeAt_124 (by decide) ?_
                refine lv_icmp_ne (tgt := 137) hx hb dX12_tapeAt_125 (by decide) (fun c_29 => ?_) (fun c_29 => ?_)
                · have k_29 : ¬ ((a - 2) - (a - 2) / 5 * 5).toInt = 2 := wk_neq c_29
                  rw [if_neg c_29] at hF
                  refine lv_aload_n hx hb dX12_tapeAt_137 rfl (lv_at hl 3 rfl) ?_
                  refine va_get (D := D) (ci := 12) (v := .ref mheights) (C := RX12) (T := TX12) (N := 44) hx hb htb inX12 hown hK hP 0 rfl rfl 10 (by decide) (htb _ tw_773) (fun _ h9 => h9) rfl dX12_tapeAt_138 ?_
                  refine lv_iload_n hx hb dX12_tapeAt_141 rfl (lv_at hl 1 rfl) ?_
                  refine va_iald hx hb hK hP 3 0 rfl rfl (show vp_in ((a - 2) / 5) 8 from vp_in_iff.mpr (show 0 ≤ ((a - 2) / 5).toInt ∧ ((a - 2) / 5).toInt < ((8 : Nat) : Int) from by omega)) dX12_tapeAt_142 ?_
                  refine lv_istore (lv' := [(5, .int (mheights_a ((a - 2) / 5).toNatClampNeg)), (4, .int ((a - 2) - (a - 2) / 5 * 5)), (3, .int ((a - 2) / 5)), (2, .int 5), (0, .ref mo), (1, .int a)]) hx hb dX12_tapeAt_143 hl (by decide) rfl (fun ls hl => ?_)
                  refine lv_bipush (v := 48) hx hb dX12_tapeAt_145 (by decide) ?_
                  refine lv_iload hx hb dX12_tapeAt_147 (lv_at hl 0 rfl) ?_
                  refine lv_iadd hx hb dX12_tapeAt_149 ?_
                  refine W.widen (k := 0) (n := 0) (by decide) (by decide) ?_
                  exact hret (48 + (mheights_a ((a - 2) / 5).toNatClampNeg)) () _ _ _ 150 (wk_sub9 (is := [0, 1, 2, 3]) hP rfl) (hD.sub [0, 1, 2, 3] rfl rfl) hS dX12_tapeAt_150 ⟨hF.symm, (show ((48 + (mheights_a ((a - 2) / 5).toNatClampNeg)).toInt = -1 ∨ a.toInt ≤ 41) from by omega)⟩
                · have k_29 : ((a - 2) - (a - 2) / 5 * 5).toInt = 2 := wk_eq c_29
                  rw [if_pos c_29] at hF
                  refine lv_aload_n hx hb dX12_tapeAt_128 rfl (lv_at hl 3 rfl) ?_
                  refine va_get (D := D) (ci := 12) (v := .ref mvalues) (C := RX12) (T := TX12) (N := 44) hx hb htb inX12 hown hK hP 0 rfl rfl 9 (by decide) (htb _ tw_772) (fun _ h9 => h9) rfl dX12_tapeAt_129 ?_
                  refine lv_iload_n hx hb dX12_tapeAt_132 rfl (lv_at hl 1 rfl) ?_
                  refine va_iald hx hb hK hP 2 0 rfl rfl (show vp_in ((a - 2) / 5) 8 from vp_in_iff.mpr (show 0 ≤ ((a - 2) / 5).toInt ∧ ((a - 2) / 5).toInt < ((8 : Nat) : Int) from by omega)) dX12_tapeAt_133 ?_
                  refine lv_goto (tgt := 143) hx hb dX12_tapeAt_134 (by decide) ?_
                  refine lv_istore (lv' := [(5, .int (mvalues_a ((a - 2) / 5).toNatClampNeg)), (4, .int ((a - 2) - (a - 2) / 5 * 5)), (3, .int ((a - 2) / 5)), (2, .int 5), (0, .ref mo), (1, .int a)]) hx hb dX12_tapeAt_143 hl (by decide) rfl (fun ls hl => ?_)
                  refine lv_bipush (v := 48) hx hb dX12_tapeAt_145 (by decide) ?_
                  refine lv_iload hx hb dX12_tapeAt_147 (lv_at hl 0 rfl) ?_
                  refine lv_iadd hx hb dX12_tapeAt_149 ?_
                  refine W.widen (k := 0) (n := 0) (by decide) (by decide) ?_
                  exact hret (48 + (mvalues_a ((a - 2) / 5).toNatClampNeg)) () _ _ _ 150 (wk_sub9 (is := [0, 1, 2, 3]) hP rfl) (hD.sub [0, 1, 2, 3] rfl rfl) hS dX12_tapeAt_150 ⟨hF.symm, (show ((48 + (mvalues_a ((a - 2) / 5).toNatClampNeg)).toInt = -1 ∨ a.toInt ≤ 41) from by omega)⟩
              · have k_28 : ((a - 2) - (a - 2) / 5 * 5).toInt = 1 := wk_eq c_28
                rw [if_pos c_28] at hF
                refine lv_aload_n hx hb dX12_tapeAt_110 rfl (lv_at hl 3 rfl) ?_
                refine va_get (D := D) (ci := 12) (v := .ref mkeys) (C := RX12) (T := TX12) (N := 44) hx hb htb inX12 hown hK hP 0 rfl rfl 8 (by decide) (htb _ tw_771) (fun _ h9 => h9) rfl dX12_tapeAt_111 ?_
                refine lv_iload_n hx hb dX12_tapeAt_114 rfl (lv_at hl 1 rfl) ?_
                refine va_iald hx hb hK hP 1 0 rfl rfl (show vp_in ((a - 2) / 5) 8 from vp_in_iff.mpr (show 0 ≤ ((a - 2) / 5).toInt ∧ ((a - 2) / 5).toInt < ((8 : Nat) : Int) from by omega)) dX12_tapeAt_115 ?_
                refine lv_bipush (v := 10) hx hb dX12_tapeAt_116 (by decide) ?_
                refine lv_irem hx hb dX12_tapeAt_118 (by decide) ?_
                refine lv_goto (tgt := 143) hx hb dX12_tapeAt_119 (by decide) ?_
                refine lv_istore (lv' := [(5, .int ((mkeys_a ((a - 2) / 5).toNatClampNeg) - (mkeys_a ((a - 2) / 5).toNatClampNeg) / 10 * 10)), (4, .int ((a - 2) - (a - 2) / 5 * 5)), (3, .int ((a - 2) / 5)), (2, .int 5), (0, .ref mo), (1, .int a)]) hx hb dX12_tapeAt_143 hl (by decide) rfl (fun ls hl => ?_)
                refine lv_bipush (v := 48) hx hb dX12_tapeAt_145 (by decide) ?_
                refine lv_iload hx hb dX12_tapeAt_147 (lv_at hl 0 rfl) ?_
                refine lv_iadd hx hb dX12_tapeAt_149 ?_
                refine W.widen (k := 0) (n := 0) (by decide) (by decide) ?_
                exact hret (48 + ((mkeys_a ((a - 2) / 5).toNatClampNeg) - (mkeys_a ((a - 2) / 5).toNatClampNeg) / 10 * 10)) () _ _ _ 150 (wk_sub9 (is := [0, 1, 2, 3]) hP rfl) (hD.sub [0, 1, 2, 3] rfl rfl) hS dX12_tapeAt_150 ⟨hF.symm, (show ((48 + ((mkeys_a ((a - 2) / 5).toNatClampNeg) - (mkeys_a ((a - 2) / 5).toNatClampNeg) / 10 * 10)).toInt = -1 ∨ a.toInt ≤ 41) from by omega)⟩
            · have k_27 : ((a - 2) - (a - 2) / 5 * 5).toInt = 0 := wk_eq c_27
              rw [if_pos c_27] at hF
              refine lv_aload_n hx hb dX12_tapeAt_92 rfl (lv_at hl 3 rfl) ?_
              refine va_get (D := D) (ci := 12) (v := .ref mkeys) (C := RX12) (T := TX12) (N := 44) hx hb htb inX12 hown hK hP 0 rfl rfl 8 (by decide) (htb _ tw_771) (fun _ h9 => h9) rfl dX12_tapeAt_93 ?_
              refine lv_iload_n hx hb dX12_tapeAt_96 rfl (lv_at hl 1 rfl) ?_
              refine va_iald hx hb hK hP 1 0 rfl rfl (show vp_in ((a - 2) / 5) 8 from vp_in_iff.mpr (show 0 ≤ ((a - 2) / 5).toInt ∧ ((a - 2) / 5).toInt < ((8 : Nat) : Int) from by omega)) dX12_tapeAt_97 ?_
              refine lv_bipush (v := 10) hx hb dX12_tapeAt_98 (by decide) ?_
              refine lv_idiv hx hb dX12_tapeAt_100 (by decide) ?_
              refine lv_goto (tgt := 143) hx hb dX12_tapeAt_101 (by decide) ?_
              refine lv_istore (lv' := [(5, .int ((mkeys_a ((a - 2) / 5).toNatClampNeg) / 10)), (4, .int ((a - 2) - (a - 2) / 5 * 5)), (3, .int ((a - 2) / 5)), (2, .int 5), (0, .ref mo), (1, .int a)]) hx hb dX12_tapeAt_143 hl (by decide) rfl (fun ls hl => ?_)
              refine lv_bipush (v := 48) hx hb dX12_tapeAt_145 (by decide) ?_
              refine lv_iload hx hb dX12_tapeAt_147 (lv_at hl 0 rfl) ?_
              refine lv_iadd hx hb dX12_tapeAt_149 ?_
              refine W.widen (k := 0) (n := 0) (by decide) (by decide) ?_
              exact hret (48 + ((mkeys_a ((a - 2) / 5).toNatClampNeg) / 10)) () _ _ _ 150 (wk_sub9 (is := [0, 1, 2, 3]) hP rfl) (hD.sub [0, 1, 2, 3] rfl rfl) hS dX12_tapeAt_150 ⟨hF.symm, (show ((48 + ((mkeys_a ((a - 2) / 5).toNatClampNeg) / 10)).toInt = -1 ∨ a.toInt ≤ 41) from by omega)⟩
          · have k_26 : ((a - 2) - (a - 2) / 5 * 5).toInt = 4 := wk_eq c_26
            rw [if_pos c_26] at hF
            refine lv_bipush (v := 44) hx hb dX12_tapeAt_84 (by decide) ?_
            refine W.widen (k := 0) (n := 0) (by decide) (by decide) ?_
            exact hret 44 () _ _ _ 86 (wk_sub9 (is := [0, 1, 2, 3]) hP rfl) (hD.sub [0, 1, 2, 3] rfl rfl) hS dX12_tapeAt_86 ⟨hF.symm, (show (44 = -1 ∨ a.toInt ≤ 41) from by omega)⟩
        · have k_25 : ((a - 2) / 5).toInt = (mo_many - 1).toInt := wk_eq c_25
          rw [if_pos c_25] at hF
          refine lv_iload hx hb dX12_tapeAt_66 (lv_at hl 0 rfl) ?_
          refine lv_iload_n hx hb dX12_tapeAt_68 rfl (lv_at hl 2 rfl) ?_
          refine lv_iconst (v := 1) hx hb dX12_tapeAt_69 (by decide) ?_
          refine lv_isub hx hb dX12_tapeAt_70 ?_
          refine wk_toi (show ((5 - 1) : Int32) = 4 by decide) ?_
          refine lv_icmp_ne (tgt := 76) hx hb dX12_tapeAt_71 (by decide) (fun c_30 => ?_) (fun c_30 => ?_)
          · have k_30 : ¬ ((a - 2) - (a - 2) / 5 * 5).toInt = 4 := wk_neq c_30
            rw [if_neg c_30] at hF
            refine lv_iload hx hb dX12_tapeAt_76 (lv_at hl 0 rfl) ?_
            refine lv_iload_n hx hb dX12_tapeAt_78 rfl (lv_at hl 2 rfl) ?_
            refine lv_iconst (v := 1) hx hb dX12_tapeAt_79 (by decide) ?_
            refine lv_isub hx hb dX12_tapeAt_80 ?_
            refine wk_toi (show ((5 - 1) : Int32) = 4 by decide) ?_
            refine lv_icmp_ne (tgt := 87) hx hb dX12_tapeAt_81 (by decide) (fun c_31 => ?_) (fun c_31 => ?_)
            · have k_31 : ¬ ((a - 2) - (a - 2) / 5 * 5).toInt = 4 := wk_neq c_31
              rw [if_neg c_31] at hF
              refine lv_iload hx hb dX12_tapeAt_87 (lv_at hl 0 rfl) ?_
              refine lv_if_ne (tgt := 104) hx hb dX12_tapeAt_89 (by decide) (fun c_32 => ?_) (fun c_32 => ?_)
              · have k_32 : ¬ ((a - 2) - (a - 2) / 5 * 5).toInt = 0 := wk_neq c_32
                rw [if_neg c_32] at hF
                refine lv_iload hx hb dX12_tapeAt_104 (lv_at hl 0 rfl) ?_
                refine lv_iconst (v := 1) hx hb dX12_tapeAt_106 (by decide) ?_
                refine lv_icmp_ne (tgt := 122) hx hb dX12_tapeAt_107 (by decide) (fun c_33 => ?_) (fun c_33 => ?_)
                · have k_33 : ¬ ((a - 2) - (a - 2) / 5 * 5).toInt = 1 := wk_neq c_33
                  rw [if_neg c_33] at hF
                  refine lv_iload hx hb dX12_tapeAt_122 (lv_at hl 0 rfl) ?_
                  refine lv_iconst (v := 2) hx hb dX12_tapeAt_124 (by decide) ?_
                  refine lv_icmp_ne (tgt := 137) hx hb dX12_tapeAt_125 (by decide) (fun c_34 => ?_) (fun c_34 => ?_)
                  · have k_34 : ¬ ((a - 2) - (a - 2) / 5 * 5).toInt = 2 := wk_neq c_34
                    rw [if_neg c_34] at hF
                    refine lv_aload_n hx hb dX12_tapeAt_137 rfl (lv_at hl 3 rfl) ?_
                    refine va_get (D := D) (ci := 12) (v := .ref mheights) (C := RX12) (T := TX12) (N := 44) hx hb htb inX12 hown hK hP 0 rfl rfl 10 (by decide) (htb _ tw_773) (fun _ h9 => h9) rfl dX12_tapeAt_138 ?_
                    refine lv_iload_n hx hb dX12_tapeAt_141 rfl (lv_at hl 1 rfl) ?_
                    refine va_iald hx hb hK hP 3 0 rfl rfl (show vp_in ((a - 2) / 5) 8 from vp_in_iff.mpr (show 0 ≤ ((a - 2) / 5).toInt ∧ ((a - 2) / 5).toInt < ((8 : Nat) : Int) from by omega)) dX12_tapeAt_142 ?_
                    refine lv_istore (lv' := [(5, .int (mheights_a ((a - 2) / 5).toNatClampNeg)), (4, .int ((a - 2) - (a - 2) / 5 * 5)), (3, .int ((a - 2) / 5)), (2, .int 5), (0, .ref mo), (1, .int a)]) hx hb dX12_tapeAt_143 hl (by decide) rfl (fun ls hl => ?_)
                    refine lv_bipush (v := 48) hx hb dX12_tapeAt_145 (by decide) ?_
                    refine lv_iload hx hb dX12_tapeAt_147 (lv_at hl 0 rfl) ?_
                    refine lv_iadd hx hb dX12_tapeAt_149 ?_
                    refine W.widen (k := 0) (n := 0) (by decide) (by decide) ?_
                    exact hret (48 + (mheights_a ((a - 2) / 5).toNatClampNeg)) () _ _ _ 150 (wk_sub9 (is := [0, 1, 2, 3]) hP rfl) (hD.sub [0, 1, 2, 3] rfl rfl) hS dX12_tapeAt_150 ⟨hF.symm, (show ((48 + (mheights_a ((a - 2) / 5).toNatClampNeg)).toInt = -1 ∨ a.toInt ≤ 41) from by omega)⟩
                  · have k_34 : ((a - 2) - (a - 2) / 5 * 5).toInt = 2 := wk_eq c_34
                    rw [if_pos c_34] at hF
                    refine lv_aload_n hx hb dX12_tapeAt_128 rfl (lv_at hl 3 rfl) ?_
                    refine va_get (D := D) (ci := 12) (v := .ref mvalues) (C := RX12) (T := TX12) (N := 44) hx hb htb inX12 hown hK hP 0 rfl rfl 9 (by decide) (htb _ tw_772) (fun _ h9 => h9) rfl dX12_tapeAt_129 ?_
                    refine lv_iload_n hx hb dX12_tapeAt_132 rfl (lv_at hl 1 rfl) ?_
                    refine va_iald hx hb hK hP 2 0 rfl rfl (show vp_in ((a - 2) / 5) 8 from vp_in_iff.mpr (show 0 ≤ ((a - 2) / 5).toInt ∧ ((a - 2) / 5).toInt < ((8 : Nat) : Int) from by omega)) dX12_tapeAt_133 ?_
                    refine lv_goto (tgt := 143) hx hb dX12_tapeAt_134 (by decide) ?_
                    refine lv_istore (lv' := [(5, .int (mvalues_a ((a - 2) / 5).toNatClampNeg)), (4, .int ((a - 2) - (a - 2) / 5 * 5)), (3, .int ((a - 2) / 5)), (2, .int 5), (0, .ref mo), (1, .int a)]) hx hb dX12_tapeAt_143 hl (by decide) rfl (fun ls hl => ?_)
                    refine lv_bipush (v := 48) hx hb dX12_tapeAt_145 (by decide) ?_
                    refine lv_iload hx hb dX12_tapeAt_147 (lv_at hl 0 rfl) ?_
                    refine lv_iadd hx hb dX12_tapeAt_149 ?_
                    refine W.widen (k := 0) (n := 0) (by decide) (by decide) ?_
                    exact hret (48 + (mvalues_a ((a - 2) / 5).toNatClampNeg)) () _ _ _ 150 (wk_sub9 (is := [0, 1, 2, 3]) hP rfl) (hD.sub [0, 1, 2, 3] rfl rfl) hS dX12_tapeAt_150 ⟨hF.symm, (show ((48 + (mvalues_a ((a - 2) / 5).toNatClampNeg)).toInt = -1 ∨ a.toInt ≤ 41) from by omega)⟩
                · have k_33 : ((a - 2) - (a - 2) / 5 * 5).toInt = 1 := wk_eq c_33
                  rw [if_pos c_33] at hF
                  refine lv_aload_n hx hb dX12_tapeAt_110 rfl (lv_at hl 3 rfl) ?_
                  refine va_get (D := D) (ci := 12) (v := .ref mkeys) (C := RX12) (T := TX12) (N := 44) hx hb htb inX12 hown hK hP 0 rfl rfl 8 (by decide) (htb _ tw_771) (fun _ h9 => h9) rfl dX12_tapeAt_111 ?_
                  refine lv_iload_n hx hb dX12_tapeAt_114 rfl (lv_at hl 1 rfl) ?_
                  refine va_iald hx hb hK hP 1 0 rfl rfl (show vp_in ((a - 2) / 5) 8 from vp_in_iff.mpr (show 0 ≤ ((a - 2) / 5).toInt ∧ ((a - 2) / 5).toInt < ((8 : Nat) : Int) from by omega)) dX12_tapeAt_115 ?_
                  refine lv_bipush (v := 10) hx hb dX12_tapeAt_116 (by decide) ?_
                  refine lv_irem hx hb dX12_tapeAt_118 (by decide) ?_
                  refine lv_goto (tgt := 143) hx hb dX12_tapeAt_119 (by decide) ?_
                  refine lv_istore (lv' := [(5, .int ((mkeys_a ((a - 2) / 5).toNatClampNeg) - (mkeys_a ((a - 2) / 5).toNatClampNeg) / 10 * 10)), (4, .int ((a - 2) - (a - 2) / 5 * 5)), (3, .int ((a - 2) / 5)), (2, .int 5), (0, .ref mo), (1, .int a)]) hx hb dX12_tapeAt_143 hl (by decide) rfl (fun ls hl => ?_)
                  refine lv_bipush (v := 48) hx hb dX12_tapeAt_145 (by decide) ?_
                  refine lv_iload hx hb dX12_tapeAt_147 (lv_at hl 0 rfl) ?_
                  refine lv_iadd hx hb dX12_tapeAt_149 ?_
                  refine W.widen (k := 0) (n := 0) (by decide) (by decide) ?_
                  exact hret (48 + ((mkeys_a ((a - 2) / 5).toNatClampNeg) - (mkeys_a ((a - 2) / 5).toNatClampNeg) / 10 * 10)) () _ _ _ 150 (wk_sub9 (is := [0, 1, 2, 3]) hP rfl) (hD.sub [0, 1, 2, 3] rfl rfl) hS dX12_tapeAt_150 ⟨hF.symm, (show ((48 + ((mkeys_a ((a - 2) / 5).toNatClampNeg) - (mkeys_a ((a - 2) / 5).toNatClampNeg) / 10 * 10)).toInt = -1 ∨ a.toInt ≤ 41) from by omega)⟩
              · have k_32 : ((a - 2) - (a - 2) / 5 * 5).toInt = 0 := wk_eq c_32
                rw [if_pos c_32] at hF
                refine lv_aload_n hx hb dX12_tapeAt_92 rfl (lv_at hl 3 rfl) ?_
                refine va_get (D := D) (ci := 12) (v := .ref mkeys) (C := RX12) (T := TX12) (N := 44) hx hb htb inX12 hown hK hP 0 rfl rfl 8 (by decide) (htb _ tw_771) (fun _ h9 => h9) rfl dX12_tapeAt_93 ?_
                refine lv_iload_n hx hb dX12_tapeAt_96 rfl (lv_at hl 1 rfl) ?_
                refine va_iald hx hb hK hP 1 0 rfl rfl (show vp_in ((a - 2) / 5) 8 from vp_in_iff.mpr (show 0 ≤ ((a - 2) / 5).toInt ∧ ((a - 2) / 5).toInt < ((8 : Nat) : Int) from by omega)) dX12_tapeAt_97 ?_
                refine lv_bipush (v := 10) hx hb dX12_tapeAt_98 (by decide) ?_
                refine lv_idiv hx hb dX12_tapeAt_100 (by decide) ?_
                refine lv_goto (tgt := 143) hx hb dX12_tapeAt_101 (by decide) ?_
                refine lv_istore (lv' := [(5, .int ((mkeys_a ((a - 2) / 5).toNatClampNeg) / 10)), (4, .int ((a - 2) - (a - 2) / 5 * 5)), (3, .int ((a - 2) / 5)), (2, .int 5), (0, .ref mo), (1, .int a)]) hx hb dX12_tapeAt_143 hl (by decide) rfl (fun ls hl => ?_)
                refine lv_bipush (v := 48) hx hb dX12_tapeAt_145 (by decide) ?_
                refine lv_iload hx hb dX12_tapeAt_147 (lv_at hl 0 rfl) ?_
                refine lv_iadd hx hb dX12_tapeAt_149 ?_
                refine W.widen (k := 0) (n := 0) (by decide) (by decide) ?_
                exact hret (48 + ((mkeys_a ((a - 2) / 5).toNatClampNeg) / 10)) () _ _ _ 150 (wk_sub9 (is := [0, 1, 2, 3]) hP rfl) (hD.sub [0, 1, 2, 3] rfl rfl) hS dX12_tapeAt_150 ⟨hF.symm, (show ((48 + ((mkeys_a ((a - 2) / 5).toNatClampNeg) / 10)).toInt = -1 ∨ a.toInt ≤ 41) from by omega)⟩
            · have k_31 : ((a - 2) - (a - 2) / 5 * 5).toInt = 4 := wk_eq c_31
              rw [if_pos c_31] at hF
              exfalso; omega
          · have k_30 : ((a - 2) - (a - 2) / 5 * 5).toInt = 4 := wk_eq c_30
            rw [if_pos c_30] at hF
            refine lv_iconst (v := (-1)) hx hb dX12_tapeAt_74 (by decide) ?_
            refine W.widen (k := 0) (n := 0) (by decide) (by decide) ?_
            exact hret (-1) () _ _ _ 75 (wk_sub9 (is := [0, 1, 2, 3]) hP rfl) (hD.sub [0, 1, 2, 3] rfl rfl) hS dX12_tapeAt_75 ⟨hF.symm, (show ((-1) = -1 ∨ a.toInt ≤ 41) from by omega)⟩
  · have k_1 : ¬ 2 ≤ a.toInt := wk_nle c_1
    rw [if_neg c_1] at hF
    refine lv_iload_n hx hb dX12_tapeAt_5 rfl (lv_at hl 1 rfl) ?_
    refine lv_if_ne (tgt := 19) hx hb dX12_tapeAt_6 (by decide) (fun c_35 => ?_) (fun c_35 => ?_)
    · have k_35 : ¬ a.toInt = 0 := wk_neq c_35
      rw [if_neg c_35] at hF
      refine lv_bipush (v := 59) hx hb dX12_tapeAt_19 (by decide) ?_
      refine W.widen (k := 0) (n := 0) (by decide) (by decide) ?_
      exact hret 59 () _ _ _ 21 (wk_sub9 (is := [0, 1, 2, 3]) hP rfl) (hD.sub [0, 1, 2, 3] rfl rfl) hS dX12_tapeAt_21 ⟨hF.symm, (show (59 = -1 ∨ a.toInt ≤ 41) from by omega)⟩
    · have k_35 : a.toInt = 0 := wk_eq c_35
      rw [if_pos c_35] at hF
      refine lv_aload_n hx hb dX12_tapeAt_9 rfl (lv_at hl 0 rfl) ?_
      refine va_get (D := D) (ci := 12) (v := .int mo_law) (C := RX12) (T := TX12) (N := 44) hx hb htb inX12 hown hK hP 0 rfl rfl 2 (by decide) (htb _ tw_765) (fun _ h9 => h9) rfl dX12_tapeAt_10 ?_
      refine wk_iS (As := [.int mo_law]) (rest := []) (wc := []) (wr := [(mo, .inr (12, [.ref mpage, .int mo_pageMany, .int mo_law, .int mo_many, .int mo_asked, .int mo_looksAll, .int mo_changes, .int mo_rowsRead, .ref mkeys, .ref mvalues, .ref mheights, .ref mheats, .int mo_secondMany, .ref msecondKeys, .ref msecondValues, .ref msecondHeights, .ref msecondHeats, .int mo_foundAt, .int mo_foundLooks, .int mo_foundLane, .int mo_bestsDone, .ref msaved, .ref mbestHeights, .int mo_seenMany, .ref msights, .ref mby, .int mo_seedNow, .int mo_keptRow, .int mo_keptMany, .int mo_keptSecond, .int mo_keptAsked, .int mo_keptLooks, .int mo_keptChanges, .int mo_keptSeen, .ref mkeptKeys, .ref mkeptValues, .ref mkeptHeights, .ref mkeptHeats, .ref mkeptKeys2, .ref mkeptValues2, .ref mkeptHeights2, .ref mkeptHeats2, .ref mkeptSights, .long mo_hash])), (mkeys, .inl (cy, 8, .inl mkeys_a)), (mvalues, .inl (cy, 8, .inl mvalues_a)), (mheights, .inl (cy, 8, .inl mheights_a))]) (n := 1) ⟨hx, hb, hml, hown, htb⟩ (c_X12_signOf l D cy   mo_law ) tw_1087 tw_1085 tw_1086 tw_71 rfl rfl (by decide +kernel) ⟨Nat.le_of_ble_eq_true rfl, Nat.le_of_ble_eq_true rfl⟩ hK hP hD hS hA [] [0, 1, 2, 3] rfl rfl rfl rfl (by decide) rfl hl.1 rfl (Nat.le_of_ble_eq_true rfl) dX12_tapeAt_13 ⟨Nat.le_of_ble_eq_true rfl, Nat.le_of_ble_eq_true rfl⟩ (fun r_36 u_37 H locs hw_38 hP hD hS => ?_)
      refine W.widen (k := 0) (n := 0) (by decide) (by decide) ?_
      have hw_38 : r_36 = (fn_X12_signOf mo_law) := hw_38
      subst hw_38
      have hP : va_P D classes [(mo, .inr (12, [.ref mpage, .int mo_pageMany, .int mo_law, .int mo_many, .int mo_asked, .int mo_looksAll, .int mo_changes, .int mo_rowsRead, .ref mkeys, .ref mvalues, .ref mheights, .ref mheats, .int mo_secondMany, .ref msecondKeys, .ref msecondValues, .ref msecondHeights, .ref msecondHeats, .int mo_foundAt, .int mo_foundLooks, .int mo_foundLane, .int mo_bestsDone, .ref msaved, .ref mbestHeights, .int mo_seenMany, .ref msights, .ref mby, .int mo_seedNow, .int mo_keptRow, .int mo_keptMany, .int mo_keptSecond, .int mo_keptAsked, .int mo_keptLooks, .int mo_keptChanges, .int mo_keptSeen, .ref mkeptKeys, .ref mkeptValues, .ref mkeptHeights, .ref mkeptHeats, .ref mkeptKeys2, .ref mkeptValues2, .ref mkeptHeights2, .ref mkeptHeats2, .ref mkeptSights, .long mo_hash])), (mkeys, .inl (cy, 8, .inl mkeys_a)), (mvalues, .inl (cy, 8, .inl mvalues_a)), (mheights, .inl (cy, 8, .inl mheights_a))] H := hP
      have hD : va_D A [(mo, .inr (12, [.ref mpage, .int mo_pageMany, .int mo_law, .int mo_many, .int mo_asked, .int mo_looksAll, .int mo_changes, .int mo_rowsRead, .ref mkeys, .ref mvalues, .ref mheights, .ref mheats, .int mo_secondMany, .ref msecondKeys, .ref msecondValues, .ref msecondHeights, .ref msecondHeats, .int mo_foundAt, .int mo_foundLooks, .int mo_foundLane, .int mo_bestsDone, .ref msaved, .ref mbestHeights, .int mo_seenMany, .ref msights, .ref mby, .int mo_seedNow, .int mo_keptRow, .int mo_keptMany, .int mo_keptSecond, .int mo_keptAsked, .int mo_keptLooks, .int mo_keptChanges, .int mo_keptSeen, .ref mkeptKeys, .ref mkeptValues, .ref mkeptHeights, .ref mkeptHeats, .ref mkeptKeys2, .ref mkeptValues2, .ref mkeptHeights2, .ref mkeptHeats2, .ref mkeptSights, .long mo_hash])), (mkeys, .inl (cy, 8, .inl mkeys_a)), (mvalues, .inl (cy, 8, .inl mvalues_a)), (mheights, .inl (cy, 8, .inl mheights_a))] := hD
      refine lv_goto (tgt := 21) hx hb dX12_tapeAt_16 (by decide) ?_
      refine W.widen (k := 0) (n := 0) (by decide) (by decide) ?_
      exact hret (fn_X12_signOf mo_law) () _ _ _ 21 (wk_sub9 (is := [0, 1, 2, 3]) hP rfl) (hD.sub [0, 1, 2, 3] rfl rfl) hS dX12_tapeAt_21 ⟨hF.symm, (show ((fn_X12_signOf mo_law).toInt = -1 ∨ a.toInt ≤ 41) from by omega)⟩
def fn_X12_tape (mo_law : Int32) (mo_many : Int32) (mkeys_a : Nat → Int32) (mvalues_a : Nat → Int32) (mheights_a : Nat → Int32) (a : Int32) : Int32 := (if (wk_in a.toInt64 0 50) = 0 then (-102) else (if (fn_X12_lacks mo_many) = 0 then (fn_X12_tapeAt mo_law mo_many mkeys_a mvalues_a mheights_a a) else (-103)))
theorem dX12_tape_0 : decode cX12_tape 0 = .ok (.iload_n 1, 1) := by decide +kernel
theorem dX12_tape_1 : decode cX12_tape 1 = .ok (.i2l, 1) := by decide +kernel
theorem dX12_tape_2 : decode cX12_tape 2 = .ok (.lconst 0, 1) := by decide +kernel
theorem dX12_tape_3 : decode cX12_tape 3 = .ok (.ldc2_w 240, 3) := by decide +kernel
theorem dX12_tape_6 : decode cX12_tape 6 = .ok (.invokestatic 82, 3) := by decide +kernel
theorem dX12_tape_9 : decode cX12_tape 9 = .ok (.ifCond .ne 6, 3) := by decide +kernel
theorem dX12_tape_12 : decode cX12_tape 12 = .ok (.bipush (-102), 2) := by decide +kernel
theorem dX12_tape_14 : decode cX12_tape 14 = .ok (.ireturn, 1) := by decide +kernel
theorem dX12_tape_15 : decode cX12_tape 15 = .ok (.aload_n 0, 1) := by decide +kernel
theorem dX12_tape_16 : decode cX12_tape 16 = .ok (.invokevirtual 185, 3) := by decide +kernel
theorem dX12_tape_19 : decode cX12_tape 19 = .ok (.ifCond .eq 8, 3) := by decide +kernel
theorem dX12_tape_22 : decode cX12_tape 22 = .ok (.bipush (-103), 2) := by decide +kernel
theorem dX12_tape_24 : decode cX12_tape 24 = .ok (.goto 8, 3) := by decide +kernel
theorem dX12_tape_27 : decode cX12_tape 27 = .ok (.aload_n 0, 1) := by decide +kernel
theorem dX12_tape_28 : decode cX12_tape 28 = .ok (.iload_n 1, 1) := by decide +kernel
theorem dX12_tape_29 : decode cX12_tape 29 = .ok (.invokevirtual 242, 3) := by decide +kernel
theorem dX12_tape_32 : decode cX12_tape 32 = .ok (.ireturn, 1) := by decide +kernel
set_option maxHeartbeats 4000000 in
set_option maxRecDepth 100000 in
theorem c_X12_tape (l : Launch) (D : va_G) (cy : ClassId) (mo mpage mkeys mvalues mheights mheats msecondKeys msecondValues msecondHeights msecondHeats msaved mbestHeights msights mby mkeptKeys mkeptValues mkeptHeights mkeptHeats mkeptKeys2 mkeptValues2 mkeptHeights2 mkeptHeats2 mkeptSights : Nat) (mo_pageMany : Int32) (mo_law : Int32) (mo_many : Int32) (mo_asked : Int32) (mo_looksAll : Int32) (mo_changes : Int32) (mo_rowsRead : Int32) (mo_secondMany : Int32) (mo_foundAt : Int32) (mo_foundLooks : Int32) (mo_foundLane : Int32) (mo_bestsDone : Int32) (mo_seenMany : Int32) (mo_seedNow : Int32) (mo_keptRow : Int32) (mo_keptMany : Int32) (mo_keptSecond : Int32) (mo_keptAsked : Int32) (mo_keptLooks : Int32) (mo_keptChanges : Int32) (mo_keptSeen : Int32) (mo_hash : Int64) (mkeys_a : Nat → Int32) (mvalues_a : Nat → Int32) (mheights_a : Nat → Int32) (a : Int32) (g_0 : 0 ≤ mo_pageMany.toInt ∧ mo_pageMany.toInt ≤ 44) (g_1 : 0 ≤ mo_many.toInt ∧ mo_many.toInt ≤ 8) (g_2 : 0 ≤ mo_secondMany.toInt ∧ mo_secondMany.toInt ≤ 8) (g_3 : (-1) ≤ mo_foundAt.toInt ∧ mo_foundAt.toInt ≤ 7) (g_4 : 0 ≤ mo_seenMany.toInt ∧ mo_seenMany.toInt ≤ 6) (g_5 : 0 ≤ mo_keptMany.toInt ∧ mo_keptMany.toInt ≤ 8) (g_6 : 0 ≤ mo_keptSecond.toInt ∧ mo_keptSecond.toInt ≤ 8) (g_7 : 0 ≤ mo_keptSeen.toInt ∧ mo_keptSeen.toInt ≤ 6) : wk_Ci l yX12_tape cX12_tape 2 (some .int) { frames := 2, cells := 0, slots := 0, locals := 45 } D cy [.ref mo, .int a] [(mo, .inr (12, [.ref mpage, .int mo_pageMany, .int mo_law, .int mo_many, .int mo_asked, .int mo_looksAll, .int mo_changes, .int mo_rowsRead, .ref mkeys, .ref mvalues, .ref mheights, .ref mheats, .int mo_secondMany, .ref msecondKeys, .ref msecondValues, .ref msecondHeights, .ref msecondHeats, .int mo_foundAt, .int mo_foundLooks, .int mo_foundLane, .int mo_bestsDone, .ref msaved, .ref mbestHeights, .int mo_seenMany, .ref msights, .ref mby, .int mo_seedNow, .int mo_keptRow, .int mo_keptMany, .int mo_keptSecond, .int mo_keptAsked, .int mo_keptLooks, .int mo_keptChanges, .int mo_keptSeen, .ref mkeptKeys, .ref mkeptValues, .ref mkeptHeights, .ref mkeptHeats, .ref mkeptKeys2, .ref mkeptValues2, .ref mkeptHeights2, .ref mkeptHeats2, .ref mkeptSights, .long mo_hash])), (mkeys, .inl (cy, 8, .inl mkeys_a)), (mvalues, .inl (cy, 8, .inl mvalues_a)), (mheights, .inl (cy, 8, .inl mheights_a))] 0 0 (fun (r : Int32) (u : Unit) => r = (fn_X12_tape mo_law mo_many mkeys_a mvalues_a mheights_a a)) (fun u => [(mo, .inr (12, [.ref mpage, .int mo_pageMany, .int mo_law, .int mo_many, .int mo_asked, .int mo_looksAll, .int mo_changes, .int mo_rowsRead, .ref mkeys, .ref mvalues, .ref mheights, .ref mheats, .int mo_secondMany, .ref msecondKeys, .ref msecondValues, .ref msecondHeights, .ref msecondHeats, .int mo_foundAt, .int mo_foundLooks, .int mo_foundLane, .int mo_bestsDone, .ref msaved, .ref mbestHeights, .int mo_seenMany, .ref msights, .ref mby, .int mo_seedNow, .int mo_keptRow, .int mo_keptMany, .int mo_keptSecond, .int mo_keptAsked, .int mo_keptLooks, .int mo_keptChanges, .int mo_keptSeen, .ref mkeptKeys, .ref mkeptValues, .ref mkeptHeights, .ref mkeptHeats, .ref mkeptKeys2, .ref mkeptValues2, .ref mkeptHeights2, .ref mkeptHeats2, .ref mkeptSights, .long mo_hash])), (mkeys, .inl (cy, 8, .inl mkeys_a)), (mvalues, .inl (cy, 8, .inl mvalues_a)), (mheights, .inl (cy, 8, .inl mheights_a))]) := by
  refine wk_mk2Ci (by decide) (Nat.le_of_ble_eq_true rfl) ?_
  intro p e s m args below meth c A ls Q B hA hK hP hD hS hl hret
  obtain ⟨hx, hb, hr, hlocks, hml, hown, htb, hin⟩ := B
  have hl : lv_has ls 2 [(0, .ref mo), (1, .int a)] := hl
  have hF : (fn_X12_tape mo_law mo_many mkeys_a mvalues_a mheights_a a) = (fn_X12_tape mo_law mo_many mkeys_a mvalues_a mheights_a a) := rfl
  conv at hF => rhs; unfold fn_X12_tape
  refine lv_iload_n hx hb dX12_tape_0 rfl (lv_at hl 1 rfl) ?_
  refine lv_i2l (v := a.toInt64) hx hb dX12_tape_1 rfl ?_
  refine lv_lconst (v := 0) hx hb dX12_tape_2 (by decide) ?_
  refine lv_ldc2 (v := 50) hx hb hown (htb _ tw_1080) dX12_tape_3 ?_
  refine wk_iS (As := [.long a.toInt64, .long 0, .long 50]) (rest := []) (wc := []) (wr := [(mo, .inr (12, [.ref mpage, .int mo_pageMany, .int mo_law, .int mo_many, .int mo_asked, .int mo_looksAll, .int mo_changes, .int mo_rowsRead, .ref mkeys, .ref mvalues, .ref mheights, .ref mheats, .int mo_secondMany, .ref msecondKeys, .ref msecondValues, .ref msecondHeights, .ref msecondHeats, .int mo_foundAt, .int mo_foundLooks, .int mo_foundLane, .int mo_bestsDone, .ref msaved, .ref mbestHeights, .int mo_seenMany, .ref msights, .ref mby, .int mo_seedNow, .int mo_keptRow, .int mo_keptMany, .int mo_keptSecond, .int mo_keptAsked, .int mo_keptLooks, .int mo_keptChanges, .int mo_keptSeen, .ref mkeptKeys, .ref mkeptValues, .ref mkeptHeights, .ref mkeptHeats, .ref mkeptKeys2, .ref mkeptValues2, .ref mkeptHeights2, .ref mkeptHeats2, .ref mkeptSights, .long mo_hash])), (mkeys, .inl (cy, 8, .inl mkeys_a)), (mvalues, .inl (cy, 8, .inl mvalues_a)), (mheights, .inl (cy, 8, .inl mheights_a))]) (n := 3) ⟨hx, hb, hml, hown, htb⟩ (c_X12_in l D cy   a.toInt64 0 50 ) tw_903 tw_901 tw_902 tw_71 rfl rfl (by decide +kernel) ⟨Nat.le_of_ble_eq_true rfl, Nat.le_of_ble_eq_true rfl⟩ hK hP hD hS hA [] [0, 1, 2, 3] rfl rfl rfl rfl (by decide) rfl hl.1 rfl (Nat.le_of_ble_eq_true rfl) dX12_tape_6 ⟨Nat.le_of_ble_eq_true rfl, Nat.le_of_ble_eq_true rfl⟩ (fun r_1 u_2 H locs hw_3 hP hD hS => ?_)
  refine W.widen (k := 0) (n := 0) (by decide) (by decide) ?_
  obtain ⟨hw_3, k_4⟩ := hw_3
  have hw_3 : r_1 = (wk_in a.toInt64 0 50) := hw_3
  subst hw_3
  have k_4 : ((wk_in a.toInt64 0 50) = 0 ∨ (wk_in a.toInt64 0 50) = 1) := k_4
  have k_5 : 0 ≤ (wk_in a.toInt64 0 50).toInt ∧ (wk_in a.toInt64 0 50).toInt ≤ 1 := wk_b01 (by assumption)
  have k_6 : ((wk_in a.toInt64 0 50).toInt = 1 ∧ 0 ≤ a.toInt ∧ a.toInt ≤ 50) ∨ ((wk_in a.toInt64 0 50).toInt = 0 ∧ ¬ (0 ≤ a.toInt ∧ a.toInt ≤ 50)) := by have h9 := wk_inf a.toInt64 0 50; simp only [wk_64] at h9; exact h9
  have hP : va_P D classes [(mo, .inr (12, [.ref mpage, .int mo_pageMany, .int mo_law, .int mo_many, .int mo_asked, .int mo_looksAll, .int mo_changes, .int mo_rowsRead, .ref mkeys, .ref mvalues, .ref mheights, .ref mheats, .int mo_secondMany, .ref msecondKeys, .ref msecondValues, .ref msecondHeights, .ref msecondHeats, .int mo_foundAt, .int mo_foundLooks, .int mo_foundLane, .int mo_bestsDone, .ref msaved, .ref mbestHeights, .int mo_seenMany, .ref msights, .ref mby, .int mo_seedNow, .int mo_keptRow, .int mo_keptMany, .int mo_keptSecond, .int mo_keptAsked, .int mo_keptLooks, .int mo_keptChanges, .int mo_keptSeen, .ref mkeptKeys, .ref mkeptValues, .ref mkeptHeights, .ref mkeptHeats, .ref mkeptKeys2, .ref mkeptValues2, .ref mkeptHeights2, .ref mkeptHeats2, .ref mkeptSights, .long mo_hash])), (mkeys, .inl (cy, 8, .inl mkeys_a)), (mvalues, .inl (cy, 8, .inl mvalues_a)), (mheights, .inl (cy, 8, .inl mheights_a))] H := hP
  have hD : va_D A [(mo, .inr (12, [.ref mpage, .int mo_pageMany, .int mo_law, .int mo_many, .int mo_asked, .int mo_looksAll, .int mo_changes, .int mo_rowsRead, .ref mkeys, .ref mvalues, .ref mheights, .ref mheats, .int mo_secondMany, .ref msecondKeys, .ref msecondValues, .ref msecondHeights, .ref msecondHeats, .int mo_foundAt, .int mo_foundLooks, .int mo_foundLane, .int mo_bestsDone, .ref msaved, .ref mbestHeights, .int mo_seenMany, .ref msights, .ref mby, .int mo_seedNow, .int mo_keptRow, .int mo_keptMany, .int mo_keptSecond, .int mo_keptAsked, .int mo_keptLooks, .int mo_keptChanges, .int mo_keptSeen, .ref mkeptKeys, .ref mkeptValues, .ref mkeptHeights, .ref mkeptHeats, .ref mkeptKeys2, .ref mkeptValues2, .ref mkeptHeights2, .ref mkeptHeats2, .ref mkeptSights, .long mo_hash])), (mkeys, .inl (cy, 8, .inl mkeys_a)), (mvalues, .inl (cy, 8, .inl mvalues_a)), (mheights, .inl (cy, 8, .inl mheights_a))] := hD
  refine lv_if_ne (tgt := 15) hx hb dX12_tape_9 (by decide) (fun c_7 => ?_) (fun c_7 => ?_)
  · have k_7 : ¬ (wk_in a.toInt64 0 50).toInt = 0 := wk_neq c_7
    rw [if_neg c_7] at hF
    refine lv_aload_n hx hb dX12_tape_15 rfl (lv_at hl 0 rfl) ?_
    refine wk_iV (As := []) (rest := []) (wc := [(mo, .inr (12, [.ref mpage, .int mo_pageMany, .int mo_law, .int mo_many, .int mo_asked, .int mo_looksAll, .int mo_changes, .int mo_rowsRead, .ref mkeys, .ref mvalues, .ref mheights, .ref mheats, .int mo_secondMany, .ref msecondKeys, .ref msecondValues, .ref msecondHeights, .ref msecondHeats, .int mo_foundAt, .int mo_foundLooks, .int mo_foundLane, .int mo_bestsDone, .ref msaved, .ref mbestHeights, .int mo_seenMany, .ref msights, .ref mby, .int mo_seedNow, .int mo_keptRow, .int mo_keptMany, .int mo_keptSecond, .int mo_keptAsked, .int mo_keptLooks, .int mo_keptChanges, .int mo_keptSeen, .ref mkeptKeys, .ref mkeptValues, .ref mkeptHeights, .ref mkeptHeats, .ref mkeptKeys2, .ref mkeptValues2, .ref mkeptHeights2, .ref mkeptHeats2, .ref mkeptSights, .long mo_hash]))]) (wr := [(mkeys, .inl (cy, 8, .inl mkeys_a)), (mvalues, .inl (cy, 8, .inl mvalues_a)), (mheights, .inl (cy, 8, .inl mheights_a))]) (n := 0) ⟨hx, hb, hml, hown, htb⟩ (c_X12_lacks l D cy mo mpage mkeys mvalues mheights mheats msecondKeys msecondValues msecondHeights msecondHeats msaved mbestHeights msights mby mkeptKeys mkeptValues mkeptHeights mkeptHeats mkeptKeys2 mkeptValues2 mkeptHeights2 mkeptHeats2 mkeptSights mo_pageMany mo_law mo_many mo_asked mo_looksAll mo_changes mo_rowsRead mo_secondMany mo_foundAt mo_foundLooks mo_foundLane mo_bestsDone mo_seenMany mo_seedNow mo_keptRow mo_keptMany mo_keptSecond mo_keptAsked mo_keptLooks mo_keptChanges mo_keptSeen mo_hash  (show 0 ≤ mo_pageMany.toInt ∧ mo_pageMany.toInt ≤ 44 from by omega) (show 0 ≤ mo_many.toInt ∧ mo_many.toInt ≤ 8 from by omega) (show 0 ≤ mo_secondMany.toInt ∧ mo_secondMany.toInt ≤ 8 from by omega) (show (-1) ≤ mo_foundAt.toInt ∧ mo_foundAt.toInt ≤ 7 from by omega) (show 0 ≤ mo_seenMany.toInt ∧ mo_seenMany.toInt ≤ 6 from by omega) (show 0 ≤ mo_keptMany.toInt ∧ mo_keptMany.toInt ≤ 8 from by omega) (show 0 ≤ mo_keptSecond.toInt ∧ mo_keptSecond.toInt ≤ 8 from by omega) (show 0 ≤ mo_keptSeen.toInt ∧ mo_keptSeen.toInt ≤ 6 from by omega)) tw_969 tw_966 tw_968 tw_29 tw_71 rfl rfl (by decide +kernel) ⟨Nat.le_of_ble_eq_true rfl, Nat.le_of_ble_eq_true rfl⟩ hK hP hD hS hA [0] [1, 2, 3] rfl rfl rfl rfl (by decide) 0 (ci := 12) rfl rfl rfl hl.1 rfl (Nat.le_of_ble_eq_true rfl) dX12_tape_16 ⟨Nat.le_of_ble_eq_true rfl, Nat.le_of_ble_eq_true rfl⟩ (fun r_8 u_9 H locs hw_10 hP hD hS => ?_)
    refine W.widen (k := 0) (n := 0) (by decide) (by decide) ?_
    obtain ⟨hw_10, k_11, k_12, k_13⟩ := hw_10
    have hw_10 : r_8 = (fn_X12_lacks mo_many) := hw_10
    subst hw_10
    have k_11 : ((fn_X12_lacks mo_many) = 0 ∨ (fn_X12_lacks mo_many) = 1) := k_11
    have k_12 : ((fn_X12_lacks mo_many).toInt = 0 ∨ mo_many.toInt = 0) := k_12
    have k_13 : ((fn_X12_lacks mo_many).toInt = 1 ∨ 1 ≤ mo_many.toInt) := k_13
    have k_14 : 0 ≤ (fn_X12_lacks mo_many).toInt ∧ (fn_X12_lacks mo_many).toInt ≤ 1 := wk_b01 (by assumption)
    have hP : va_P D classes [(mkeys, .inl (cy, 8, .inl mkeys_a)), (mvalues, .inl (cy, 8, .inl mvalues_a)), (mheights, .inl (cy, 8, .inl mheights_a)), (mo, .inr (12, [.ref mpage, .int mo_pageMany, .int mo_law, .int mo_many, .int mo_asked, .int mo_looksAll, .int mo_changes, .int mo_rowsRead, .ref mkeys, .ref mvalues, .ref mheights, .ref mheats, .int mo_secondMany, .ref msecondKeys, .ref msecondValues, .ref msecondHeights, .ref msecondHeats, .int mo_foundAt, .int mo_foundLooks, .int mo_foundLane, .int mo_bestsDone, .ref msaved, .ref mbestHeights, .int mo_seenMany, .ref msights, .ref mby, .int mo_seedNow, .int mo_keptRow, .int mo_keptMany, .int mo_keptSecond, .int mo_keptAsked, .int mo_keptLooks, .int mo_keptChanges, .int mo_keptSeen, .ref mkeptKeys, .ref mkeptValues, .ref mkeptHeights, .ref mkeptHeats, .ref mkeptKeys2, .ref mkeptValues2, .ref mkeptHeights2, .ref mkeptHeats2, .ref mkeptSights, .long mo_hash]))] H := hP
    have hD : va_D A [(mkeys, .inl (cy, 8, .inl mkeys_a)), (mvalues, .inl (cy, 8, .inl mvalues_a)), (mheights, .inl (cy, 8, .inl mheights_a)), (mo, .inr (12, [.ref mpage, .int mo_pageMany, .int mo_law, .int mo_many, .int mo_asked, .int mo_looksAll, .int mo_changes, .int mo_rowsRead, .ref mkeys, .ref mvalues, .ref mheights, .ref mheats, .int mo_secondMany, .ref msecondKeys, .ref msecondValues, .ref msecondHeights, .ref msecondHeats, .int mo_foundAt, .int mo_foundLooks, .int mo_foundLane, .int mo_bestsDone, .ref msaved, .ref mbestHeights, .int mo_seenMany, .ref msights, .ref mby, .int mo_seedNow, .int mo_keptRow, .int mo_keptMany, .int mo_keptSecond, .int mo_keptAsked, .int mo_keptLooks, .int mo_keptChanges, .int mo_keptSeen, .ref mkeptKeys, .ref mkeptValues, .ref mkeptHeights, .ref mkeptHeats, .ref mkeptKeys2, .ref mkeptValues2, .ref mkeptHeights2, .ref mkeptHeats2, .ref mkeptSights, .long mo_hash]))] := hD
    refine lv_if_eq (tgt := 27) hx hb dX12_tape_19 (by decide) (fun c_15 => ?_) (fun c_15 => ?_)
    · have k_15 : (fn_X12_lacks mo_many).toInt = 0 := wk_eq c_15
      rw [if_pos c_15] at hF
      refine lv_aload_n hx hb dX12_tape_27 rfl (lv_at hl 0 rfl) ?_
      refine lv_iload_n hx hb dX12_tape_28 rfl (lv_at hl 1 rfl) ?_
      refine wk_iV (As := [.int a]) (rest := []) (wc := [(mo, .inr (12, [.ref mpage, .int mo_pageMany, .int mo_law, .int mo_many, .int mo_asked, .int mo_looksAll, .int mo_changes, .int mo_rowsRead, .ref mkeys, .ref mvalues, .ref mheights, .ref mheats, .int mo_secondMany, .ref msecondKeys, .ref msecondValues, .ref msecondHeights, .ref msecondHeats, .int mo_foundAt, .int mo_foundLooks, .int mo_foundLane, .int mo_bestsDone, .ref msaved, .ref mbestHeights, .int mo_seenMany, .ref msights, .ref mby, .int mo_seedNow, .int mo_keptRow, .int mo_keptMany, .int mo_keptSecond, .int mo_keptAsked, .int mo_keptLooks, .int mo_keptChanges, .int mo_keptSeen, .ref mkeptKeys, .ref mkeptValues, .ref mkeptHeights, .ref mkeptHeats, .ref mkeptKeys2, .ref mkeptValues2, .ref mkeptHeights2, .ref mkeptHeats2, .ref mkeptSights, .long mo_hash])), (mkeys, .inl (cy, 8, .inl mkeys_a)), (mvalues, .inl (cy, 8, .inl mvalues_a)), (mheights, .inl (cy, 8, .inl mheights_a))]) (wr := []) (n := 1) ⟨hx, hb, hml, hown, htb⟩ (c_X12_tapeAt l D cy mo mpage mkeys mvalues mheights mheats msecondKeys msecondValues msecondHeights msecondHeats msaved mbestHeights msights mby mkeptKeys mkeptValues mkeptHeights mkeptHeats mkeptKeys2 mkeptValues2 mkeptHeights2 mkeptHeats2 mkeptSights mo_pageMany mo_law mo_many mo_asked mo_looksAll mo_changes mo_rowsRead mo_secondMany mo_foundAt mo_foundLooks mo_foundLane mo_bestsDone mo_seenMany mo_seedNow mo_keptRow mo_keptMany mo_keptSecond mo_keptAsked mo_keptLooks mo_keptChanges mo_keptSeen mo_hash mkeys_a mvalues_a mheights_a a (show 0 ≤ mo_pageMany.toInt ∧ mo_pageMany.toInt ≤ 44 from by omega) (show 0 ≤ mo_many.toInt ∧ mo_many.toInt ≤ 8 from by omega) (show 0 ≤ mo_secondMany.toInt ∧ mo_secondMany.toInt ≤ 8 from by omega) (show (-1) ≤ mo_foundAt.toInt ∧ mo_foundAt.toInt ≤ 7 from by omega) (show 0 ≤ mo_seenMany.toInt ∧ mo_seenMany.toInt ≤ 6 from by omega) (show 0 ≤ mo_keptMany.toInt ∧ mo_keptMany.toInt ≤ 8 from by omega) (show 0 ≤ mo_keptSecond.toInt ∧ mo_keptSecond.toInt ≤ 8 from by omega) (show 0 ≤ mo_keptSeen.toInt ∧ mo_keptSeen.toInt ≤ 6 from by omega) (show 0 ≤ a.toInt ∧ a.toInt ≤ 60 from by omega)) tw_1084 tw_1081 tw_1083 tw_48 tw_71 rfl rfl (by decide +kernel) ⟨Nat.le_of_ble_eq_true rfl, Nat.le_of_ble_eq_true rfl⟩ hK hP hD hS hA [3, 0, 1, 2] [] rfl rfl rfl rfl (by decide) 0 (ci := 12) rfl rfl rfl hl.1 rfl (Nat.le_of_ble_eq_true rfl) dX12_tape_29 ⟨Nat.le_of_ble_eq_true rfl, Nat.le_of_ble_eq_true rfl⟩ (fun r_16 u_17 H locs hw_18 hP hD hS => ?_)
      refine W.widen (k := 0) (n := 0) (by decide) (by decide) ?_
      obtain ⟨hw_18, k_19⟩ := hw_18
      have hw_18 : r_16 = (fn_X12_tapeAt mo_law mo_many mkeys_a mvalues_a mheights_a a) := hw_18
      subst hw_18
      have k_19 : ((fn_X12_tapeAt mo_law mo_many mkeys_a mvalues_a mheights_a a).toInt = -1 ∨ a.toInt ≤ 41) := k_19
      have hP : va_P D classes [(mo, .inr (12, [.ref mpage, .int mo_pageMany, .int mo_law, .int mo_many, .int mo_asked, .int mo_looksAll, .int mo_changes, .int mo_rowsRead, .ref mkeys, .ref mvalues, .ref mheights, .ref mheats, .int mo_secondMany, .ref msecondKeys, .ref msecondValues, .ref msecondHeights, .ref msecondHeats, .int mo_foundAt, .int mo_foundLooks, .int mo_foundLane, .int mo_bestsDone, .ref msaved, .ref mbestHeights, .int mo_seenMany, .ref msights, .ref mby, .int mo_seedNow, .int mo_keptRow, .int mo_keptMany, .int mo_keptSecond, .int mo_keptAsked, .int mo_keptLooks, .int mo_keptChanges, .int mo_keptSeen, .ref mkeptKeys, .ref mkeptValues, .ref mkeptHeights, .ref mkeptHeats, .ref mkeptKeys2, .ref mkeptValues2, .ref mkeptHeights2, .ref mkeptHeats2, .ref mkeptSights, .long mo_hash])), (mkeys, .inl (cy, 8, .inl mkeys_a)), (mvalues, .inl (cy, 8, .inl mvalues_a)), (mheights, .inl (cy, 8, .inl mheights_a))] H := hP
      have hD : va_D A [(mo, .inr (12, [.ref mpage, .int mo_pageMany, .int mo_law, .int mo_many, .int mo_asked, .int mo_looksAll, .int mo_changes, .int mo_rowsRead, .ref mkeys, .ref mvalues, .ref mheights, .ref mheats, .int mo_secondMany, .ref msecondKeys, .ref msecondValues, .ref msecondHeights, .ref msecondHeats, .int mo_foundAt, .int mo_foundLooks, .int mo_foundLane, .int mo_bestsDone, .ref msaved, .ref mbestHeights, .int mo_seenMany, .ref msights, .ref mby, .int mo_seedNow, .int mo_keptRow, .int mo_keptMany, .int mo_keptSecond, .int mo_keptAsked, .int mo_keptLooks, .int mo_keptChanges, .int mo_keptSeen, .ref mkeptKeys, .ref mkeptValues, .ref mkeptHeights, .ref mkeptHeats, .ref mkeptKeys2, .ref mkeptValues2, .ref mkeptHeights2, .ref mkeptHeats2, .ref mkeptSights, .long mo_hash])), (mkeys, .inl (cy, 8, .inl mkeys_a)), (mvalues, .inl (cy, 8, .inl mvalues_a)), (mheights, .inl (cy, 8, .inl mheights_a))] := hD
      refine W.widen (k := 0) (n := 0) (by decide) (by decide) ?_
      exact hret (fn_X12_tapeAt mo_law mo_many mkeys_a mvalues_a mheights_a a) () _ _ _ 32 (wk_sub9 (is := [0, 1, 2, 3]) hP rfl) (hD.sub [0, 1, 2, 3] rfl rfl) hS dX12_tape_32 hF.symm
    · have k_15 : ¬ (fn_X12_lacks mo_many).toInt = 0 := wk_neq c_15
      rw [if_neg c_15] at hF
      refine lv_bipush (v := (-103)) hx hb dX12_tape_22 (by decide) ?_
      refine lv_goto (tgt := 32) hx hb dX12_tape_24 (by decide) ?_
      refine W.widen (k := 0) (n := 0) (by decide) (by decide) ?_
      exact hret (-103) () _ _ _ 32 (wk_sub9 (is := [3, 0, 1, 2]) hP rfl) (hD.sub [3, 0, 1, 2] rfl rfl) hS dX12_tape_32 hF.symm
  · have k_7 : (wk_in a.toInt64 0 50).toInt = 0 := wk_eq c_7
    rw [if_pos c_7] at hF
    refine lv_bipush (v := (-102)) hx hb dX12_tape_12 (by decide) ?_
    refine W.widen (k := 0) (n := 0) (by decide) (by decide) ?_
    exact hret (-102) () _ _ _ 14 (wk_sub9 (is := [0, 1, 2, 3]) hP rfl) (hD.sub [0, 1, 2, 3] rfl rfl) hS dX12_tape_14 hF.symm
