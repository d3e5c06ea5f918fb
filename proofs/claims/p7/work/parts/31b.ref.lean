def lp_X12_look_21 (mo_many : Int32) (mo_foundAt : Int32) (mo_foundLooks : Int32) (mo_foundLane : Int32) (mkeys_a : Nat → Int32) (mheights_a : Nat → Int32) (a : Int32) (b : Int32) (d : Int32) (e1 : Int32) : Nat → Int32 → Int32 → Int32 → Int32 → Int32 → Int32 × Int32 × Int32 × Int32 × Int32
  | 0, _, _, _, _, _ => default
  | fu_21 + 1, x5_21, x6_21, mo_foundAt_21, mo_foundLooks_21, mo_foundLane_21 => (if x6_21 < 0 then (x5_21, x6_21, mo_foundAt_21, mo_foundLooks_21, mo_foundLane_21) else (if mo_foundAt_21 = (-1) then (if (fn_X12_nextIn mo_many mheights_a x5_21 x6_21) = (-1) then (if (fn_X12_nextIn mo_many mheights_a x5_21 x6_21) = (-1) then (if (fn_X12_nextIn mo_many mheights_a x5_21 x6_21) = (-1) then (lp_X12_look_21 mo_many mo_foundAt mo_foundLooks mo_foundLane mkeys_a mheights_a a b d e1 fu_21 x5_21 (x6_21 + (-1)) mo_foundAt_21 (mo_foundLooks_21 + 0) mo_foundLane_21) else default) else default) else (if (fn_X12_nextIn mo_many mheights_a x5_21 x6_21) = (-1) then default else (if (mkeys_a (fn_X12_nextIn mo_many mheights_a x5_21 x6_21).toNatClampNeg) = d then (lp_X12_look_21 mo_many mo_foundAt mo_foundLooks mo_foundLane mkeys_a mheights_a a b d e1 fu_21 x5_21 x6_21 (fn_X12_nextIn mo_many mheights_a x5_21 x6_21) (mo_foundLooks_21 + 1) x6_21) else (if (fn_X12_nextIn mo_many mheights_a x5_21 x6_21) = (-1) then default else (if d ≤ (mkeys_a (fn_X12_nextIn mo_many mheights_a x5_21 x6_21).toNatClampNeg) then (lp_X12_look_21 mo_many mo_foundAt mo_foundLooks mo_foundLane mkeys_a mheights_a a b d e1 fu_21 x5_21 (x6_21 + (-1)) mo_foundAt_21 (mo_foundLooks_21 + 1) mo_foundLane_21) else (if e1 = 0 then (lp_X12_look_21 mo_many mo_foundAt mo_foundLooks mo_foundLane mkeys_a mheights_a a b d e1 fu_21 (fn_X12_nextIn mo_many mheights_a x5_21 x6_21) x6_21 mo_foundAt_21 (mo_foundLooks_21 + 1) mo_foundLane_21) else (lp_X12_look_21 mo_many mo_foundAt mo_foundLooks mo_foundLane mkeys_a mheights_a a b d e1 fu_21 (fn_X12_nextIn mo_many mheights_a x5_21 x6_21) ((mheights_a (fn_X12_nextIn mo_many mheights_a x5_21 x6_21).toNatClampNeg) - 1) mo_foundAt_21 (mo_foundLooks_21 + 1) mo_foundLane_21))))))) else (x5_21, x6_21, mo_foundAt_21, mo_foundLooks_21, mo_foundLane_21)))
termination_by n => n
def fn_X12_look (mo_many : Int32) (mo_foundAt : Int32) (mo_foundLooks : Int32) (mo_foundLane : Int32) (mkeys_a : Nat → Int32) (mheights_a : Nat → Int32) (a : Int32) (b : Int32) (d : Int32) (e1 : Int32) : Int32 × Int32 × Int32 := (pm2 (lp_X12_look_21 mo_many mo_foundAt mo_foundLooks mo_foundLane mkeys_a mheights_a a b d e1 42949672960 a b (-1) 0 (-1)) (fun x5_21 t_ => (pm2 (t_) (fun x6_21 t_ => (pm2 (t_) (fun mo_foundAt_21 t_ => (pm2 (t_) (fun mo_foundLooks_21 mo_foundLane_21 => (mo_foundAt_21, mo_foundLooks_21, mo_foundLane_21)))))))))
theorem dX12_look_0 : decode cX12_look 0 = .ok (.iload_n 1, 1) := by decide +kernel
theorem dX12_look_1 : decode cX12_look 1 = .ok (.istore 5, 2) := by decide +kernel
theorem dX12_look_3 : decode cX12_look 3 = .ok (.iload_n 2, 1) := by decide +kernel
theorem dX12_look_4 : decode cX12_look 4 = .ok (.istore 6, 2) := by decide +kernel
theorem dX12_look_6 : decode cX12_look 6 = .ok (.aload_n 0, 1) := by decide +kernel
theorem dX12_look_7 : decode cX12_look 7 = .ok (.iconst (-1), 1) := by decide +kernel
theorem dX12_look_8 : decode cX12_look 8 = .ok (.putfield 158, 3) := by decide +kernel
theorem dX12_look_11 : decode cX12_look 11 = .ok (.aload_n 0, 1) := by decide +kernel
theorem dX12_look_12 : decode cX12_look 12 = .ok (.iconst 0, 1) := by decide +kernel
theorem dX12_look_13 : decode cX12_look 13 = .ok (.putfield 161, 3) := by decide +kernel
theorem dX12_look_16 : decode cX12_look 16 = .ok (.aload_n 0, 1) := by decide +kernel
theorem dX12_look_17 : decode cX12_look 17 = .ok (.iconst (-1), 1) := by decide +kernel
theorem dX12_look_18 : decode cX12_look 18 = .ok (.putfield 164, 3) := by decide +kernel
theorem dX12_look_21 : decode cX12_look 21 = .ok (.iload 6, 2) := by decide +kernel
theorem dX12_look_23 : decode cX12_look 23 = .ok (.ifCond .lt 124, 3) := by decide +kernel
theorem dX12_look_26 : decode cX12_look 26 = .ok (.aload_n 0, 1) := by decide +kernel
theorem dX12_look_27 : decode cX12_look 27 = .ok (.getfield 158, 3) := by decide +kernel
theorem dX12_look_30 : decode cX12_look 30 = .ok (.iconst (-1), 1) := by decide +kernel
theorem dX12_look_31 : decode cX12_look 31 = .ok (.if_icmp .ne 116, 3) := by decide +kernel
theorem dX12_look_34 : decode cX12_look 34 = .ok (.aload_n 0, 1) := by decide +kernel
theorem dX12_look_35 : decode cX12_look 35 = .ok (.iload 5, 2) := by decide +kernel
theorem dX12_look_37 : decode cX12_look 37 = .ok (.iload 6, 2) := by decide +kernel
theorem dX12_look_39 : decode cX12_look 39 = .ok (.invokevirtual 155, 3) := by decide +kernel
theorem dX12_look_42 : decode cX12_look 42 = .ok (.istore 7, 2) := by decide +kernel
theorem dX12_look_44 : decode cX12_look 44 = .ok (.aload_n 0, 1) := by decide +kernel
theorem dX12_look_45 : decode cX12_look 45 = .ok (.dup, 1) := by decide +kernel
theorem dX12_look_46 : decode cX12_look 46 = .ok (.getfield 161, 3) := by decide +kernel
theorem dX12_look_49 : decode cX12_look 49 = .ok (.iload 7, 2) := by decide +kernel
theorem dX12_look_51 : decode cX12_look 51 = .ok (.iconst (-1), 1) := by decide +kernel
theorem dX12_look_52 : decode cX12_look 52 = .ok (.if_icmp .ne 7, 3) := by decide +kernel
theorem dX12_look_55 : decode cX12_look 55 = .ok (.iconst 0, 1) := by decide +kernel
theorem dX12_look_56 : decode cX12_look 56 = .ok (.goto 4, 3) := by decide +kernel
theorem dX12_look_59 : decode cX12_look 59 = .ok (.iconst 1, 1) := by decide +kernel
theorem dX12_look_60 : decode cX12_look 60 = .ok (.iadd, 1) := by decide +kernel
theorem dX12_look_61 : decode cX12_look 61 = .ok (.putfield 161, 3) := by decide +kernel
theorem dX12_look_64 : decode cX12_look 64 = .ok (.iload 7, 2) := by decide +kernel
theorem dX12_look_66 : decode cX12_look 66 = .ok (.iconst (-1), 1) := by decide +kernel
theorem dX12_look_67 : decode cX12_look 67 = .ok (.if_icmp .eq 29, 3) := by decide +kernel
theorem dX12_look_70 : decode cX12_look 70 = .ok (.aload_n 0, 1) := by decide +kernel
theorem dX12_look_71 : decode cX12_look 71 = .ok (.getfield 13, 3) := by decide +kernel
theorem dX12_look_74 : decode cX12_look 74 = .ok (.iload 7, 2) := by decide +kernel
theorem dX12_look_76 : decode cX12_look 76 = .ok (.iaload, 1) := by decide +kernel
theorem dX12_look_77 : decode cX12_look 77 = .ok (.iload_n 3, 1) := by decide +kernel
theorem dX12_look_78 : decode cX12_look 78 = .ok (.if_icmp .ne 18, 3) := by decide +kernel
theorem dX12_look_81 : decode cX12_look 81 = .ok (.aload_n 0, 1) := by decide +kernel
theorem dX12_look_82 : decode cX12_look 82 = .ok (.iload 7, 2) := by decide +kernel
theorem dX12_look_84 : decode cX12_look 84 = .ok (.putfield 158, 3) := by decide +kernel
theorem dX12_look_87 : decode cX12_look 87 = .ok (.aload_n 0, 1) := by decide +kernel
theorem dX12_look_88 : decode cX12_look 88 = .ok (.iload 6, 2) := by decide +kernel
theorem dX12_look_90 : decode cX12_look 90 = .ok (.putfield 164, 3) := by decide +kernel
theorem dX12_look_93 : decode cX12_look 93 = .ok (.goto 51, 3) := by decide +kernel
theorem dX12_look_96 : decode cX12_look 96 = .ok (.iload 7, 2) := by decide +kernel
theorem dX12_look_98 : decode cX12_look 98 = .ok (.iconst (-1), 1) := by decide +kernel
theorem dX12_look_99 : decode cX12_look 99 = .ok (.if_icmp .eq 42, 3) := by decide +kernel
theorem dX12_look_102 : decode cX12_look 102 = .ok (.aload_n 0, 1) := by decide +kernel
theorem dX12_look_103 : decode cX12_look 103 = .ok (.getfield 13, 3) := by decide +kernel
theorem dX12_look_106 : decode cX12_look 106 = .ok (.iload 7, 2) := by decide +kernel
theorem dX12_look_108 : decode cX12_look 108 = .ok (.iaload, 1) := by decide +kernel
theorem dX12_look_109 : decode cX12_look 109 = .ok (.iload_n 3, 1) := by decide +kernel
theorem dX12_look_110 : decode cX12_look 110 = .ok (.if_icmp .ge 31, 3) := by decide +kernel
theorem dX12_look_113 : decode cX12_look 113 = .ok (.iload 7, 2) := by decide +kernel
theorem dX12_look_115 : decode cX12_look 115 = .ok (.istore 5, 2) := by decide +kernel
theorem dX12_look_117 : decode cX12_look 117 = .ok (.iload 4, 2) := by decide +kernel
theorem dX12_look_119 : decode cX12_look 119 = .ok (.ifCond .eq 15, 3) := by decide +kernel
theorem dX12_look_122 : decode cX12_look 122 = .ok (.aload_n 0, 1) := by decide +kernel
theorem dX12_look_123 : decode cX12_look 123 = .ok (.getfield 19, 3) := by decide +kernel
theorem dX12_look_126 : decode cX12_look 126 = .ok (.iload 7, 2) := by decide +kernel
theorem dX12_look_128 : decode cX12_look 128 = .ok (.iaload, 1) := by decide +kernel
theorem dX12_look_129 : decode cX12_look 129 = .ok (.iconst 1, 1) := by decide +kernel
theorem dX12_look_130 : decode cX12_look 130 = .ok (.isub, 1) := by decide +kernel
theorem dX12_look_131 : decode cX12_look 131 = .ok (.goto 5, 3) := by decide +kernel
theorem dX12_look_134 : decode cX12_look 134 = .ok (.iload 6, 2) := by decide +kernel
theorem dX12_look_136 : decode cX12_look 136 = .ok (.istore 6, 2) := by decide +kernel
theorem dX12_look_138 : decode cX12_look 138 = .ok (.goto 6, 3) := by decide +kernel
theorem dX12_look_141 : decode cX12_look 141 = .ok (.iinc 6 (-1), 3) := by decide +kernel
theorem dX12_look_144 : decode cX12_look 144 = .ok (.goto (-123), 3) := by decide +kernel
theorem dX12_look_147 : decode cX12_look 147 = .ok (.return_, 1) := by decide +kernel
set_option maxHeartbeats 4000000 in
set_option maxRecDepth 100000 in
theorem c_X12_look (l : Launch) (D : va_G) (cy : ClassId) (mo mpage mkeys mvalues mheights mheats msecondKeys msecondValues msecondHeights msecondHeats msaved mbestHeights msights mby mkeptKeys mkeptValues mkeptHeights mkeptHeats mkeptKeys2 mkeptValues2 mkeptHeights2 mkeptHeats2 mkeptSights : Nat) (mo_pageMany : Int32) (mo_law : Int32) (mo_many : Int32) (mo_asked : Int32) (mo_looksAll : Int32) (mo_changes : Int32) (mo_rowsRead : Int32) (mo_secondMany : Int32) (mo_foundAt : Int32) (mo_foundLooks : Int32) (mo_foundLane : Int32) (mo_bestsDone : Int32) (mo_seenMany : Int32) (mo_seedNow : Int32) (mo_keptRow : Int32) (mo_keptMany : Int32) (mo_keptSecond : Int32) (mo_keptAsked : Int32) (mo_keptLooks : Int32) (mo_keptChanges : Int32) (mo_keptSeen : Int32) (mo_hash : Int64) (mkeys_a : Nat → Int32) (mheights_a : Nat → Int32) (a : Int32) (b : Int32) (d : Int32) (e1 : Int32) (g_0 : 0 ≤ mo_pageMany.toInt ∧ mo_pageMany.toInt ≤ 44) (g_1 : 0 ≤ mo_many.toInt ∧ mo_many.toInt ≤ 8) (g_2 : 0 ≤ mo_secondMany.toInt ∧ mo_secondMany.toInt ≤ 8) (g_3 : (-1) ≤ mo_foundAt.toInt ∧ mo_foundAt.toInt ≤ 7) (g_4 : 0 ≤ mo_seenMany.toInt ∧ mo_seenMany.toInt ≤ 6) (g_5 : 0 ≤ mo_keptMany.toInt ∧ mo_keptMany.toInt ≤ 8) (g_6 : 0 ≤ mo_keptSecond.toInt ∧ mo_keptSecond.toInt ≤ 8) (g_7 : 0 ≤ mo_keptSeen.toInt ∧ mo_keptSeen.toInt ≤ 6) (g_8 : (-1) ≤ a.toInt ∧ a.toInt ≤ 7) : wk_Cv l yX12_look cX12_look 8 none { frames := 1, cells := 0, slots := 0, locals := 23 } D cy [.ref mo, .int a, .int b, .int d, .int e1] [(mo, .inr (12, [.ref mpage, .int mo_pageMany, .int mo_law, .int mo_many, .int mo_asked, .int mo_looksAll, .int mo_changes, .int mo_rowsRead, .ref mkeys, .ref mvalues, .ref mheights, .ref mheats, .int mo_secondMany, .ref msecondKeys, .ref msecondValues, .ref msecondHeights, .ref msecondHeats, .int mo_foundAt, .int mo_foundLooks, .int mo_foundLane, .int mo_bestsDone, .ref msaved, .ref mbestHeights, .int mo_seenMany, .ref msights, .ref mby, .int mo_seedNow, .int mo_keptRow, .int mo_keptMany, .int mo_keptSecond, .int mo_keptAsked, .int mo_keptLooks, .int mo_keptChanges, .int mo_keptSeen, .ref mkeptKeys, .ref mkeptValues, .ref mkeptHeights, .ref mkeptHeats, .ref mkeptKeys2, .ref mkeptValues2, .ref mkeptHeights2, .ref mkeptHeats2, .ref mkeptSights, .long mo_hash])), (mkeys, .inl (cy, 8, .inl mkeys_a)), (mheights, .inl (cy, 8, .inl mheights_a))] 0 0 (fun (u : Int32 × Int32 × Int32) => u = (fn_X12_look mo_many mo_foundAt mo_foundLooks mo_foundLane mkeys_a mheights_a a b d e1) ∧ ((-1) ≤ u.1.toInt ∧ u.1.toInt ≤ 7)) (fun u => [(mo, .inr (12, [.ref mpage, .int mo_pageMany, .int mo_law, .int mo_many, .int mo_asked, .int mo_looksAll, .int mo_changes, .int mo_rowsRead, .ref mkeys, .ref mvalues, .ref mheights, .ref mheats, .int mo_secondMany, .ref msecondKeys, .ref msecondValues, .ref msecondHeights, .ref msecondHeats, .int u.1, .int u.2.1, .int u.2.2, .int mo_bestsDone, .ref msaved, .ref mbestHeights, .int mo_seenMany, .ref msights, .ref mby, .int mo_seedNow, .int mo_keptRow, .int mo_keptMany, .int mo_keptSecond, .int mo_keptAsked, .int mo_keptLooks, .int mo_keptChanges, .int mo_keptSeen, .ref mkeptKeys, .ref mkeptValues, .ref mkeptHeights, .ref mkeptHeats, .ref mkeptKeys2, .ref mkeptValues2, .ref mkeptHeights2, .ref mkeptHeats2, .ref mkeptSights, .long mo_hash])), (mkeys, .inl (cy, 8, .inl mkeys_a)), (mheights, .inl (cy, 8, .inl mheights_a))]) := by
  refine wk_mk2Cv (by decide) (Nat.le_of_ble_eq_true rfl) ?_
  intro p e s m args below meth c A ls Q B hA hK hP hD hS hl hret
  obtain ⟨hx, hb, hr, hlocks, hml, hown, htb, hin⟩ := B
  have hl : lv_has ls 8 [(0, .ref mo), (1, .int a), (2, .int b), (3, .int d), (4, .int e1)] := hl
  have hF : (fn_X12_look mo_many mo_foundAt mo_foundLooks mo_foundLane mkeys_a mheights_a a b d e1) = (fn_X12_look mo_many mo_foundAt mo_foundLooks mo_foundLane mkeys_a mheights_a a b d e1) := rfl
  conv at hF => rhs; unfold fn_X12_look
  refine lv_iload_n hx hb dX12_look_0 rfl (lv_at hl 1 rfl) ?_
  refine lv_istore (lv' := [(5, .int a), (0, .ref mo), (1, .int a), (2, .int b), (3, .int d), (4, .int e1)]) hx hb dX12_look_1 hl (by decide) rfl (fun ls hl => ?_)
  refine lv_iload_n hx hb dX12_look_3 rfl (lv_at hl 3 rfl) ?_
  refine lv_istore (lv' := [(6, .int b), (5, .int a), (0, .ref mo), (1, .int a), (2, .int b), (3, .int d), (4, .int e1)]) hx hb dX12_look_4 hl (by decide) rfl (fun ls hl => ?_)
  refine lv_aload_n hx hb dX12_look_6 rfl (lv_at hl 2 rfl) ?_
  refine lv_iconst (v := (-1)) hx hb dX12_look_7 (by decide) ?_
  refine va_put (D := D) (ci := 12) (v := .int (-1)) (ty := .int) (C := RX12) (T := TX12) (N := 44) hx hb htb inX12 tyX12 tyX12_ok nmX12 hown hK hP hD hS 0 rfl rfl 17 (by decide) (htb _ tw_780) (fun _ h9 => h9) rfl (by decide +kernel) rfl rfl (Nat.le_of_ble_eq_true rfl) dX12_look_8 (fun H locs hP hD hS => ?_)
  have hP : va_P D classes [(mo, .inr (12, [.ref mpage, .int mo_pageMany, .int mo_law, .int mo_many, .int mo_asked, .int mo_looksAll, .int mo_changes, .int mo_rowsRead, .ref mkeys, .ref mvalues, .ref mheights, .ref mheats, .int mo_secondMany, .ref msecondKeys, .ref msecondValues, .ref msecondHeights, .ref msecondHeats, .int (-1), .int mo_foundLooks, .int mo_foundLane, .int mo_bestsDone, .ref msaved, .ref mbestHeights, .int mo_seenMany, .ref msights, .ref mby, .int mo_seedNow, .int mo_keptRow, .int mo_keptMany, .int mo_keptSecond, .int mo_keptAsked, .int mo_keptLooks, .int mo_keptChanges, .int mo_keptSeen, .ref mkeptKeys, .ref mkeptValues, .ref mkeptHeights, .ref mkeptHeats, .ref mkeptKeys2, .ref mkeptValues2, .ref mkeptHeights2, .ref mkeptHeats2, .ref mkeptSights, .long mo_hash])), (mkeys, .inl (cy, 8, .inl mkeys_a)), (mheights, .inl (cy, 8, .inl mheights_a))] H := hP
  have hD : va_D A [(mo, .inr (12, [.ref mpage, .int mo_pageMany, .int mo_law, .int mo_many, .int mo_asked, .int mo_looksAll, .int mo_changes, .int mo_rowsRead, .ref mkeys, .ref mvalues, .ref mheights, .ref mheats, .int mo_secondMany, .ref msecondKeys, .ref msecondValues, .ref msecondHeights, .ref msecondHeats, .int (-1), .int mo_foundLooks, .int mo_foundLane, .int mo_bestsDone, .ref msaved, .ref mbestHeights, .int mo_seenMany, .ref msights, .ref mby, .int mo_seedNow, .int mo_keptRow, .int mo_keptMany, .int mo_keptSecond, .int mo_keptAsked, .int mo_keptLooks, .int mo_keptChanges, .int mo_keptSeen, .ref mkeptKeys, .ref mkeptValues, .ref mkeptHeights, .ref mkeptHeats, .ref mkeptKeys2, .ref mkeptValues2, .ref mkeptHeights2, .ref mkeptHeats2, .ref mkeptSights, .long mo_hash])), (mkeys, .inl (cy, 8, .inl mkeys_a)), (mheights, .inl (cy, 8, .inl mheights_a))] := hD
  refine lv_aload_n hx hb dX12_look_11 rfl (lv_at hl 2 rfl) ?_
  refine lv_iconst (v := 0) hx hb dX12_look_12 (by decide) ?_
  refine va_put (D := D) (ci := 12) (v := .int 0) (ty := .int) (C := RX12) (T := TX12) (N := 44) hx hb htb inX12 tyX12 tyX12_ok nmX12 hown hK hP hD hS 0 rfl rfl 18 (by decide) (htb _ tw_781) (fun _ h9 => h9) rfl (by decide +kernel) rfl rfl (Nat.le_of_ble_eq_true rfl) dX12_look_13 (fun H locs hP hD hS => ?_)
  have hP : va_P D classes [(mo, .inr (12, [.ref mpage, .int mo_pageMany, .int mo_law, .int mo_many, .int mo_asked, .int mo_looksAll, .int mo_changes, .int mo_rowsRead, .ref mkeys, .ref mvalues, .ref mheights, .ref mheats, .int mo_secondMany, .ref msecondKeys, .ref msecondValues, .ref msecondHeights, .ref msecondHeats, .int (-1), .int 0, .int mo_foundLane, .int mo_bestsDone, .ref msaved, .ref mbestHeights, .int mo_seenMany, .ref msights, .ref mby, .int mo_seedNow, .int mo_keptRow, .int mo_keptMany, .int mo_keptSecond, .int mo_keptAsked, .int mo_keptLooks, .int mo_keptChanges, .int mo_keptSeen, .ref mkeptKeys, .ref mkeptValues, .ref mkeptHeights, .ref mkeptHeats, .ref mkeptKeys2, .ref mkeptValues2, .ref mkeptHeights2, .ref mkeptHeats2, .ref mkeptSights, .long mo_hash])), (mkeys, .inl (cy, 8, .inl mkeys_a)), (mheights, .inl (cy, 8, .inl mheights_a))] H := hP
  have hD : va_D A [(mo, .inr (12, [.ref mpage, .int mo_pageMany, .int mo_law, .int mo_many, .int mo_asked, .int mo_looksAll, .int mo_changes, .int mo_rowsRead, .ref mkeys, .ref mvalues, .ref mheights, .ref mheats, .int mo_secondMany, .ref msecondKeys, .ref msecondValues, .ref msecondHeights, .ref msecondHeats, .int (-1), .int 0, .int mo_foundLane, .int mo_bestsDone, .ref msaved, .ref mbestHeights, .int mo_seenMany, .ref msights, .ref mby, .int mo_seedNow, .int mo_keptRow, .int mo_keptMany, .int mo_keptSecond, .int mo_keptAsked, .int mo_keptLooks, .int mo_keptChanges, .int mo_keptSeen, .ref mkeptKeys, .ref mkeptValues, .ref mkeptHeights, .ref mkeptHeats, .ref mkeptKeys2, .ref mkeptValues2, .ref mkeptHeights2, .ref mkeptHeats2, .ref mkeptSights, .long mo_hash])), (mkeys, .inl (cy, 8, .inl mkeys_a)), (mheights, .inl (cy, 8, .inl mheights_a))] := hD
  refine lv_aload_n hx hb dX12_look_16 rfl (lv_at hl 2 rfl) ?_
  refine lv_iconst (v := (-1)) hx hb dX12_look_17 (by decide) ?_
  refine va_put (D := D) (ci := 12) (v := .int (-1)) (ty := .int) (C := RX12) (T := TX12) (N := 44) hx hb htb inX12 tyX12 tyX12_ok nmX12 hown hK hP hD hS 0 rfl rfl 19 (by decide) (htb _ tw_782) (fun _ h9 => h9) rfl (by decide +kernel) rfl rfl (Nat.le_of_ble_eq_true rfl) dX12_look_18 (fun H locs hP hD hS => ?_)
  have hP : va_P D classes [(mo, .inr (12, [.ref mpage, .int mo_pageMany, .int mo_law, .int mo_many, .int mo_asked, .int mo_looksAll, .int mo_changes, .int mo_rowsRead, .ref mkeys, .ref mvalues, .ref mheights, .ref mheats, .int mo_secondMany, .ref msecondKeys, .ref msecondValues, .ref msecondHeights, .ref msecondHeats, .int (-1), .int 0, .int (-1), .int mo_bestsDone, .ref msaved, .ref mbestHeights, .int mo_seenMany, .ref msights, .ref mby, .int mo_seedNow, .int mo_keptRow, .int mo_keptMany, .int mo_keptSecond, .int mo_keptAsked, .int mo_keptLooks, .int mo_keptChanges, .int mo_keptSeen, .ref mkeptKeys, .ref mkeptValues, .ref mkeptHeights, .ref mkeptHeats, .ref mkeptKeys2, .ref mkeptValues2, .ref mkeptHeights2, .ref mkeptHeats2, .ref mkeptSights, .long mo_hash])), (mkeys, .inl (cy, 8, .inl mkeys_a)), (mheights, .inl (cy, 8, .inl mheights_a))] H := hP
  have hD : va_D A [(mo, .inr (12, [.ref mpage, .int mo_pageMany, .int mo_law, .int mo_many, .int mo_asked, .int mo_looksAll, .int mo_changes, .int mo_rowsRead, .ref mkeys, .ref mvalues, .ref mheights, .ref mheats, .int mo_secondMany, .ref msecondKeys, .ref msecondValues, .ref msecondHeights, .ref msecondHeats, .int (-1), .int 0, .int (-1), .int mo_bestsDone, .ref msaved, .ref mbestHeights, .int mo_seenMany, .ref msights, .ref mby, .int mo_seedNow, .int mo_keptRow, .int mo_keptMany, .int mo_keptSecond, .int mo_keptAsked, .int mo_keptLooks, .int mo_keptChanges, .int mo_keptSeen, .ref mkeptKeys, .ref mkeptValues, .ref mkeptHeights, .ref mkeptHeats, .ref mkeptKeys2, .ref mkeptValues2, .ref mkeptHeights2, .ref mkeptHeats2, .ref mkeptSights, .long mo_hash])), (mkeys, .inl (cy, 8, .inl mkeys_a)), (mheights, .inl (cy, 8, .inl mheights_a))] := hD
  have hlp_21 : ∀ (fu_21 : Nat) (x5_21 : Int32) (x6_21 : Int32) (mo_foundAt_21 : Int32) (mo_foundLooks_21 : Int32) (mo_foundLane_21 : Int32) (H : Heap) (locs : List Loc) (ls : Array Slot), ((-1) ≤ x5_21.toInt ∧ x5_21.toInt ≤ 7) → ((-1) ≤ mo_foundAt_21.toInt ∧ mo_foundAt_21.toInt ≤ 7) → (7 - x5_21.toInt) * 4294967296 + x6_21.toInt + 2147483648 + (7 - mo_foundAt_21.toInt) < (fu_21 : Int) → ((fn_X12_look mo_many mo_foundAt mo_foundLooks mo_foundLane mkeys_a mheights_a a b d e1) = (pm2 (lp_X12_look_21 mo_many mo_foundAt mo_foundLooks mo_foundLane mkeys_a mheights_a a b d e1 fu_21 x5_21 x6_21 mo_foundAt_21 mo_foundLooks_21 mo_foundLane_21) (fun x5_21 t_ => (pm2 (t_) (fun x6_21 t_ => (pm2 (t_) (fun mo_foundAt_21 t_ => (pm2 (t_) (fun mo_foundLooks_21 mo_foundLane_21 => (mo_foundAt_21, mo_foundLooks_21, mo_foundLane_21)))))))))) → va_P D classes [(mo, .inr (12, [.ref mpage, .int mo_pageMany, .int mo_law, .int mo_many, .int mo_asked, .int mo_looksAll, .int mo_changes, .int mo_rowsRead, .ref mkeys, .ref mvalues, .ref mheights, .ref mheats, .int mo_secondMany, .ref msecondKeys, .ref msecondValues, .ref msecondHeights, .ref msecondHeats, .int mo_foundAt_21, .int mo_foundLooks_21, .int mo_foundLane_21, .int mo_bestsDone, .ref msaved, .ref mbestHeights, .int mo_seenMany, .ref msights, .ref mby, .int mo_seedNow, .int mo_keptRow, .int mo_keptMany, .int mo_keptSecond, .int mo_keptAsked, .int mo_keptLooks, .int mo_keptChanges, .int mo_keptSeen, .ref mkeptKeys, .ref mkeptValues, .ref mkeptHeights, .ref mkeptHeats, .ref mkeptKeys2, .ref mkeptValues2, .ref mkeptHeights2, .ref mkeptHeats2, .ref mkeptSights, .long mo_hash])), (mkeys, .inl (cy, 8, .inl mkeys_a)), (mheights, .inl (cy, 8, .inl mheights_a))] H → va_D A [(mo, .inr (12, [.ref mpage, .int mo_pageMany, .int mo_law, .int mo_many, .int mo_asked, .int mo_looksAll, .int mo_changes, .int mo_rowsRead, .ref mkeys, .ref mvalues, .ref mheights, .ref mheats, .int mo_secondMany, .ref msecondKeys, .ref msecondValues, .ref msecondHeights, .ref msecondHeats, .int mo_foundAt_21, .int mo_foundLooks_21, .int mo_foundLane_21, .int mo_bestsDone, .ref msaved, .ref mbestHeights, .int mo_seenMany, .ref msights, .ref mby, .int mo_seedNow, .int mo_keptRow, .int mo_keptMany, .int mo_keptSecond, .int mo_keptAsked, .int mo_keptLooks, .int mo_keptChanges, .int mo_keptSeen, .ref mkeptKeys, .ref mkeptValues, .ref mkeptHeights, .ref mkeptHeats, .ref mkeptKeys2, .ref mkeptValues2, .ref mkeptHeights2, .ref mkeptHeats2, .ref mkeptSights, .long mo_hash])), (mkeys, .inl (cy, 8, .inl mkeys_a)), (mheights, .inl (cy, 8, .inl mheights_a))] → va_S A s.heap H locs → lv_has ls 8 [(6, .int x6_21), (5, .int x5_21), (0, .ref mo), (1, .int a), (2, .int b), (3, .int d), (4, .int e1)] → W p l e { frames := 1, cells := 0, slots := 0, locals := 23 } s m args below meth c H locs 0 0 Q (F0 m 21 ls []) := by
    intro fu_21
    induction fu_21 with
    | zero =>
      intro x5_21 x6_21 mo_foundAt_21 mo_foundLooks_21 mo_foundLane_21 H locs ls hi_21_0 hi_21_1 hm hF hP hD hS hl
      have := wk_rng x5_21; have := wk_rng x6_21; exfalso; omega
    | succ fu_21 ih_21 =>
      intro x5_21 x6_21 mo_foundAt_21 mo_foundLooks_21 mo_foundLane_21 H locs ls hi_21_0 hi_21_1 hm hF hP hD hS hl
      rw [lp_X12_look_21] at hF
      refine lv_iload hx hb dX12_look_21 (lv_at hl 0 rfl) ?_
      refine lv_if_lt (tgt := 147) hx hb dX12_look_23 (by decide) (fun c_1 => ?_) (fun c_1 => ?_)
      · have k_1 : x6_21.toInt < 0 := wk_lt c_1
        replace hF := hF.trans (pm2_p1 c_1)
        rw [pm2_mk x5_21 (x6_21, mo_foundAt_21, mo_foundLooks_21, mo_foundLane_21), pm2_mk x6_21 (mo_foundAt_21, mo_foundLooks_21, mo_foundLane_21), pm2_mk mo_foundAt_21 (mo_foundLooks_21, mo_foundLane_21), pm2_mk mo_foundLooks_21 mo_foundLane_21] at hF
        refine W.widen (k := 0) (n := 0) (by decide) (by decide) ?_
        exact hret (mo_foundAt_21, mo_foundLooks_21, mo_foundLane_21) _ _ _ 147 (wk_sub9 (is := [0, 1, 2]) hP rfl) (hD.sub [0, 1, 2] rfl rfl) hS dX12_look_147 ⟨hF.symm, (show ((-1) ≤ mo_foundAt_21.toInt ∧ mo_foundAt_21.toInt ≤ 7) from by omega)⟩
      · have k_1 : ¬ x6_21.toInt < 0 := wk_nlt c_1
        replace hF := hF.trans (pm2_n1 c_1)
        refine lv_aload_n hx hb dX12_look_26 rfl (lv_at hl 2 rfl) ?_
        refine va_get (D := D) (ci := 12) (v := .int mo_foundAt_21) (C := RX12) (T := TX12) (N := 44) hx hb htb inX12 hown hK hP 0 rfl rfl 17 (by decide) (htb _ tw_780) (fun _ h9 => h9) rfl dX12_look_27 ?_
        refine lv_iconst (v := (-1)) hx hb dX12_look_30 (by decide) ?_
        refine lv_icmp_ne (tgt := 147) hx hb dX12_look_31 (by decide) (fun c_2 => ?_) (fun c_2 => ?_)
        · have k_2 : ¬ mo_foundAt_21.toInt = (-1) := wk_neq c_2
          replace hF := hF.trans (pm2_n1 c_2)
          rw [pm2_mk x5_21 (x6_21, mo_foundAt_21, mo_foundLooks_21, mo_foundLane_21), pm2_mk x6_21 (mo_foundAt_21, mo_foundLooks_21, mo_foundLane_21), pm2_mk mo_foundAt_21 (mo_foundLooks_21, mo_foundLane_21), pm2_mk mo_foundLooks_21 mo_foundLane_21] at hF
          refine W.widen (k := 0) (n := 0) (by decide) (by decide) ?_
          exact hret (mo_foundAt_21, mo_foundLooks_21, mo_foundLane_21) _ _ _ 147 (wk_sub9 (is := [0, 1, 2]) hP rfl) (hD.sub [0, 1, 2] rfl rfl) hS dX12_look_147 ⟨hF.symm, (show ((-1) ≤ mo_foundAt_21.toInt ∧ mo_foundAt_21.toInt ≤ 7) from by omega)⟩
        · have k_2 : mo_foundAt_21.toInt = (-1) := wk_eq c_2
          replace hF := hF.trans (pm2_p1 c_2)
          refine lv_aload_n hx hb dX12_look_34 rfl (lv_at hl 2 rfl) ?_
          refine lv_iload hx hb dX12_look_35 (lv_at hl 1 rfl) ?_
          refine lv_iload hx hb dX12_look_37 (lv_at hl 0 rfl) ?_
          refine wk_iV (As := [.int x5_21, .int x6_21]) (rest := []) (wc := [(mo, .inr (12, [.ref mpage, .int mo_pageMany, .int mo_law, .int mo_many, .int mo_asked, .int mo_looksAll, .int mo_changes, .int mo_rowsRead, .ref mkeys, .ref mvalues, .ref mheights, .ref mheats, .int mo_secondMany, .ref msecondKeys, .ref msecondValues, .ref msecondHeights, .ref msecondHeats, .int mo_foundAt_21, .int mo_foundLooks_21, .int mo_foundLane_21, .int mo_bestsDone, .ref msaved, .ref mbestHeights, .int mo_seenMany, .ref msights, .ref mby, .int mo_seedNow, .int mo_keptRow, .int mo_keptMany, .int mo_keptSecond, .int mo_keptAsked, .int mo_keptLooks, .int mo_keptChanges, .int mo_keptSeen, .ref mkeptKeys, .ref mkeptValues, .ref mkeptHeights, .ref mkeptHeats, .ref mkeptKeys2, .ref mkeptValues2, .ref mkeptHeights2, .ref mkeptHeats2, .ref mkeptSights, .long mo_hash])), (mheights, .inl (cy, 8, .inl mheights_a))]) (wr := [(mkeys, .inl (cy, 8, .inl mkeys_a))]) (n := 2) ⟨hx, hb, hml, hown, htb⟩ (c_X12_nextIn l D cy mo mpage mkeys mvalues mheights mheats msecondKeys msecondValues msecondHeights msecondHeats msaved mbestHeights msights mby mkeptKeys mkeptValues mkeptHeights mkeptHeats mkeptKeys2 mkeptValues2 mkeptHeights2 mkeptHeats2 mkeptSights mo_pageMany mo_law mo_many mo_asked mo_looksAll mo_changes mo_rowsRead mo_secondMany mo_foundAt_21 mo_foundLooks_21 mo_foundLane_21 mo_bestsDone mo_seenMany mo_seedNow mo_keptRow mo_keptMany mo_keptSecond mo_keptAsked mo_keptLooks mo_keptChanges mo_keptSeen mo_hash mheights_a x5_21 x6_21 (show 0 ≤ mo_pageMany.toInt ∧ mo_pageMany.toInt ≤ 44 from by omega) (show 0 ≤ mo_many.toInt ∧ mo_many.toInt ≤ 8 from by omega) (show 0 ≤ mo_secondMany.toInt ∧ mo_secondMany.toInt ≤ 8 from by omega) (show (-1) ≤ mo_foundAt_21.toInt ∧ mo_foundAt_21.toInt ≤ 7 from by omega) (show 0 ≤ mo_seenMany.toInt ∧ mo_seenMany.toInt ≤ 6 from by omega) (show 0 ≤ mo_keptMany.toInt ∧ mo_keptMany.toInt ≤ 8 from by omega) (show 0 ≤ mo_keptSecond.toInt ∧ mo_keptSecond.toInt ≤ 8 from by omega) (show 0 ≤ mo_keptSeen.toInt ∧ mo_keptSeen.toInt ≤ 6 from by omega) (show (-1) ≤ x5_21.toInt ∧ x5_21.toInt ≤ 7 from by omega)) tw_985 tw_982 tw_984 tw_33 tw_71 rfl rfl (by decide +kernel) ⟨Nat.le_of_ble_eq_true rfl, Nat.le_of_ble_eq_true rfl⟩ hK hP hD hS hA [0, 2] [1] rfl rfl rfl rfl (by decide) 0 (ci := 12) rfl rfl rfl hl.1 rfl (Nat.le_of_ble_eq_true rfl) dX12_look_39 ⟨Nat.le_of_ble_eq_true rfl, Nat.le_of_ble_eq_true rfl⟩ (fun r_3 u_4 H locs hw_5 hP hD hS => ?_)
          refine W.widen (k := 0) (n := 0) (by decide) (by decide) ?_
          obtain ⟨hw_5, k_6, k_7, k_8⟩ := hw_5
          have hw_5 : r_3 = (fn_X12_nextIn mo_many mheights_a x5_21 x6_21) := hw_5
          subst hw_5
          have k_6 : ((-1) ≤ (fn_X12_nextIn mo_many mheights_a x5_21 x6_21).toInt ∧ (fn_X12_nextIn mo_many mheights_a x5_21 x6_21).toInt ≤ 7) := k_6
          have k_7 : ((fn_X12_nextIn mo_many mheights_a x5_21 x6_21).toInt < mo_many.toInt) := k_7
          have k_8 : ((fn_X12_nextIn mo_many mheights_a x5_21 x6_21).toInt = -1 ∨ x5_21.toInt < (fn_X12_nextIn mo_many mheights_a x5_21 x6_21).toInt) := k_8
          have hP : va_P D classes [(mkeys, .inl (cy, 8, .inl mkeys_a)), (mo, .inr (12, [.ref mpage, .int mo_pageMany, .int mo_law, .int mo_many, .int mo_asked, .int mo_looksAll, .int mo_changes, .int mo_rowsRead, .ref mkeys, .ref mvalues, .ref mheights, .ref mheats, .int mo_secondMany, .ref msecondKeys, .ref msecondValues, .ref msecondHeights, .ref msecondHeats, .int mo_foundAt_21, .int mo_foundLooks_21, .int mo_foundLane_21, .int mo_bestsDone, .ref msaved, .ref mbestHeights, .int mo_seenMany, .ref msights, .ref mby, .int mo_seedNow, .int mo_keptRow, .int mo_keptMany, .int mo_keptSecond, .int mo_keptAsked, .int mo_keptLooks, .int mo_keptChanges, .int mo_keptSeen, .ref mkeptKeys, .ref mkeptValues, .ref mkeptHeights, .ref mkeptHeats, .ref mkeptKeys2, .ref mkeptValues2, .ref mkeptHeights2, .ref mkeptHeats2, .ref mkeptSights, .long mo_hash])), (mheights, .inl (cy, 8, .inl mheights_a))] H := hP
          have hD : va_D A [(mkeys, .inl (cy, 8, .inl mkeys_a)), (mo, .inr (12, [.ref mpage, .int mo_pageMany, .int mo_law, .int mo_many, .int mo_asked, .int mo_looksAll, .int mo_changes, .int mo_rowsRead, .ref mkeys, .ref mvalues, .ref mheights, .ref mheats, .int mo_secondMany, .ref msecondKeys, .ref msecondValues, .ref msecondHeights, .ref msecondHeats, .int mo_foundAt_21, .int mo_foundLooks_21, .int mo_foundLane_21, .int mo_bestsDone, .ref msaved, .ref mbestHeights, .int mo_seenMany, .ref msights, .ref mby, .int mo_seedNow, .int mo_keptRow, .int mo_keptMany, .int mo_keptSecond, .int mo_keptAsked, .int mo_keptLooks, .int mo_keptChanges, .int mo_keptSeen, .ref mkeptKeys, .ref mkeptValues, .ref mkeptHeights, .ref mkeptHeats, .ref mkeptKeys2, .ref mkeptValues2, .ref mkeptHeights2, .ref mkeptHeats2, .ref mkeptSights, .long mo_hash])), (mheights, .inl (cy, 8, .inl mheights_a))] := hD
          refine lv_istore (lv' := [(7, .int (fn_X12_nextIn mo_many mheights_a x5_21 x6_21)), (6, .int x6_21), (5, .int x5_21), (0, .ref mo), (1, .int a), (2, .int b), (3, .int d), (4, .int e1)]) hx hb dX12_look_42 hl (by decide) rfl (fun ls hl => ?_)
          refine lv_aload_n hx hb dX12_look_44 rfl (lv_at hl 3 rfl) ?_
          refine lv_dup hx hb dX12_look_45 rfl ?_
          refine va_get (D := D) (ci := 12) (v := .int mo_foundLooks_21) (C := RX12) (T := TX12) (N := 44) hx hb htb inX12 hown hK hP 1 rfl rfl 18 (by decide) (htb _ tw_781) (fun _ h9 => h9) rfl dX12_look_46 ?_
          refine lv_iload hx hb dX12_look_49 (lv_at hl 0 rfl) ?_
          refine lv_iconst (v := (-1)) hx hb dX12_look_51 (by decide) ?_
          refine lv_icmp_ne (tgt := 59) hx hb dX12_look_52 (by decide) (fun c_9 => ?_) (fun c_9 => ?_)
          · have k_9 : ¬ (fn_X12_nextIn mo_many mheights_a x5_21 x6_21).toInt = (-1) := wk_neq c_9
            replace hF := hF.trans (pm2_n1 c_9)
            refine lv_iconst (v := 1) hx hb dX12_look_59 (by decide) ?_
            refine lv_iadd hx hb dX12_look_60 ?_
            refine va_put (D := D) (ci := 12) (v := .int (mo_foundLooks_21 + 1)) (ty := .int) (C := RX12) (T := TX12) (N := 44) hx hb htb inX12 tyX12 tyX12_ok nmX12 hown hK hP hD hS 1 rfl rfl 18 (by decide) (htb _ tw_781) (fun _ h9 => h9) rfl (by decide +kernel) rfl rfl (Nat.le_of_ble_eq_true rfl) dX12_look_61 (fun H locs hP hD hS => ?_)
            have hP : va_P D classes [(mkeys, .inl (cy, 8, .inl mkeys_a)), (mo, .inr (12, [.ref mpage, .int mo_pageMany, .int mo_law, .int mo_many, .int mo_asked, .int mo_looksAll, .int mo_changes, .int mo_rowsRead, .ref mkeys, .ref mvalues, .ref mheights, .ref mheats, .int mo_secondMany, .ref msecondKeys, .ref msecondValues, .ref msecondHeights, .ref msecondHeats, .int mo_foundAt_21, .int (mo_foundLooks_21 + 1), .int mo_foundLane_21, .int mo_bestsDone, .ref msaved, .ref mbestHeights, .int mo_seenMany, .ref msights, .ref mby, .int mo_seedNow, .int mo_keptRow, .int mo_keptMany, .int mo_keptSecond, .int mo_keptAsked, .int mo_keptLooks, .int mo_keptChanges, .int mo_keptSeen, .ref mkeptKeys, .ref mkeptValues, .ref mkeptHeights, .ref mkeptHeats, .ref mkeptKeys2, .ref mkeptValues2, .ref mkeptHeights2, .ref mkeptHeats2, .ref mkeptSights, .long mo_hash])), (mheights, .inl (cy, 8, .inl mheights_a))] H := hP
            have hD : va_D A [(mkeys, .inl (cy, 8, .inl mkeys_a)), (mo, .inr (12, [.ref mpage, .int mo_pageMany, .int mo_law, .int mo_many, .int mo_asked, .int mo_looksAll, .int mo_changes, .int mo_rowsRead, .ref mkeys, .ref mvalues, .ref mheights, .ref mheats, .int mo_secondMany, .ref msecondKeys, .ref msecondValues, .ref msecondHeights, .ref msecondHeats, .int mo_foundAt_21, .int (mo_foundLooks_21 + 1), .int mo_foundLane_21, .int mo_bestsDone, .ref msaved, .ref mbestHeights, .int mo_seenMany, .ref msights, .ref mby, .int mo_seedNow, .int mo_keptRow, .int mo_keptMany, .int mo_keptSecond, .int mo_keptAsked, .int mo_keptLooks, .int mo_keptChanges, .int mo_keptSeen, .ref mkeptKeys, .ref mkeptValues, .ref mkeptHeights, .ref mkeptHeats, .ref mkeptKeys2, .ref mkeptValues2, .ref mkeptHeights2, .ref mkeptHeats2, .ref mkeptSights, .long mo_hash])), (mheights, .inl (cy, 8, .inl mheights_a))] := hD
            refine lv_iload hx hb dX12_look_64 (lv_at hl 0 rfl) ?_
            refine lv_iconst (v := (-1)) hx hb dX12_look_66 (by decide) ?_
            refine lv_icmp_eq (tgt := 96) hx hb dX12_look_67 (by decide) (fun c_10 => ?_) (fun c_10 => ?_)
            · have k_10 : (fn_X12_nextIn mo_many mheights_a x5_21 x6_21).toInt = (-1) := wk_eq c_10
              replace hF := hF.trans (pm2_p1 c_10)
              exfalso; omega
            · have k_10 : ¬ (fn_X12_nextIn mo_many mheights_a x5_21 x6_21).toInt = (-1) := wk_neq c_10
              replace hF := hF.trans (pm2_n1 c_10)
              refine lv_aload_n hx hb dX12_look_70 rfl (lv_at hl 3 rfl) ?_
              refine va_get (D := D) (ci := 12) (v := .ref mkeys) (C := RX12) (T := TX12) (N := 44) hx hb htb inX12 hown hK hP 1 rfl rfl 8 (by decide) (htb _ tw_771) (fun _ h9 => h9) rfl dX12_look_71 ?_
              refine lv_iload hx hb dX12_look_74 (lv_at hl 0 rfl) ?_
              refine va_iald hx hb hK hP 0 0 rfl rfl (show vp_in (fn_X12_nextIn mo_many mheights_a x5_21 x6_21) 8 from vp_in_iff.mpr (show 0 ≤ (fn_X12_nextIn mo_many mheights_a x5_21 x6_21).toInt ∧ (fn_X12_nextIn mo_many mheights_a x5_21 x6_21).toInt < ((8 : Nat) : Int) from by omega)) dX12_look_76 ?_
              refine lv_iload_n hx hb dX12_look_77 rfl (lv_at hl 6 rfl) ?_
              refine lv_icmp_ne (tgt := 96) hx hb dX12_look_78 (by decide) (fun c_11 => ?_) (fun c_11 => ?_)
              · have k_11 : ¬ (mkeys_a (fn_X12_nextIn mo_many mheights_a x5_21 x6_21).toNatClampNeg).toInt = d.toInt := wk_neq c_11
                replace hF := hF.trans (pm2_n1 c_11)
                refine lv_iload hx hb dX12_look_96 (lv_at hl 0 rfl) ?_
                refine lv_iconst (v := (-1)) hx hb dX12_look_98 (by decide) ?_
                refine lv_icmp_eq (tgt := 141) hx hb dX12_look_99 (by decide) (fun c_12 => ?_) (fun c_12 => ?_)
                · have k_12 : (fn_X12_nextIn mo_many mheights_a x5_21 x6_21).toInt = (-1) := wk_eq c_12
                  replace hF := hF.trans (pm2_p1 c_12)
                  exfalso; omega
                · have k_12 : ¬ (fn_X12_nextIn mo_many mheights_a x5_21 x6_21).toInt = (-1) := wk_neq c_12
                  replace hF := hF.trans (pm2_n1 c_12)
                  refine lv_aload_n hx hb dX12_look_102 rfl (lv_at hl 3 rfl) ?_
                  refine va_get (D := D) (ci := 12) (v := .ref mkeys) (C := RX12) (T := TX12) (N := 44) hx hb htb inX12 hown hK hP 1 rfl rfl 8 (by decide) (htb _ tw_771) (fun _ h9 => h9) rfl dX12_look_103 ?_
                  refine lv_iload hx hb dX12_look_106 (lv_at hl 0 rfl) ?_
                  refine va_iald hx hb hK hP 0 0 rfl rfl (show vp_in (fn_X12_nextIn mo_many mheights_a x5_21 x6_21) 8 from vp_in_iff.mpr (show 0 ≤ (fn_X12_nextIn mo_many mheights_a x5_21 x6_21).toInt ∧ (fn_X12_nextIn mo_many mheights_a x5_21 x6_21).toInt < ((8 : Nat) : Int) from by omega)) dX12_look_108 ?_
                  refine lv_iload_n hx hb dX12_look_109 rfl (lv_at hl 6 rfl) ?_
                  refine lv_icmp_ge (tgt := 141) hx hb dX12_look_110 (by decide) (fun c_13 => ?_) (fun c_13 => ?_)
                  · have k_13 : d.toInt ≤ (mkeys_a (fn_X12_nextIn mo_many mheights_a x5_21 x6_21).toNatClampNeg).toInt := wk_le c_13
                    replace hF := hF.trans (pm2_p1 c_13)
                    refine lv_iinc (v := (x6_21 + (-1))) (lv' := [(6, .int (x6_21 + (-1))), (7, .int (fn_X12_nextIn mo_many mheights_a x5_21 x6_21)), (5, .int x5_21), (0, .ref mo), (1, .int a), (2, .int b), (3, .int d), (4, .int e1)]) hx hb dX12_look_141 hl (k := 1) rfl rfl (by decide) rfl (fun ls hl => ?_)
                    have k_14 : (x6_21 + (-1)).toInt = x6_21.toInt + (-1) := wk_add x6_21.toInt (-1) rfl rfl (by have h9 := wk_rng x6_21; omega) (by have h9 := wk_rng x6_21; omega)
                    refine lv_goto (tgt := 21) hx hb dX12_look_144 (by decide) ?_
                    have k_15 := wk_rng x5_21
                    have k_16 := wk_rng (x6_21 + (-1))
                    exact ih_21 x5_21 (x6_21 + (-1)) mo_foundAt_21 (mo_foundLooks_21 + 1) mo_foundLane_21 _ _ _ (show (-1) ≤ x5_21.toInt ∧ x5_21.toInt ≤ 7 from by omega) (show (-1) ≤ mo_foundAt_21.toInt ∧ mo_foundAt_21.toInt ≤ 7 from by omega) (wk_lex2 hm k_14) hF (wk_sub9 (is := [1, 0, 2]) hP rfl) (hD.sub [1, 0, 2] rfl rfl) hS (lv_sub hl [0, 2, 3, 4, 5, 6, 7] rfl)
                  · have k_13 : ¬ d.toInt ≤ (mkeys_a (fn_X12_nextIn mo_many mheights_a x5_21 x6_21).toNatClampNeg).toInt := wk_nle c_13
                    replace hF := hF.trans (pm2_n1 c_13)
                    refine lv_iload hx hb dX12_look_113 (lv_at hl 0 rfl) ?_
                    refine lv_istore (lv' := [(5, .int (fn_X12_nextIn mo_many mheights_a x5_21 x6_21)), (7, .int (fn_X12_nextIn mo_many mheights_a x5_21 x6_21)), (6, .int x6_21), (0, .ref mo), (1, .int a), (2, .int b), (3, .int d), (4, .int e1)]) hx hb dX12_look_115 hl (by decide) rfl (fun ls hl => ?_)
                    refine lv_iload hx hb dX12_look_117 (lv_at hl 7 rfl) ?_
                    refine lv_if_eq (tgt := 134) hx hb dX12_look_119 (by decide) (fun c_17 => ?_) (fun c_17 => ?_)
                    · have k_17 : e1.toInt = 0 := wk_eq c_17
                      replace hF := hF.trans (pm2_p1 c_17)
                      refine lv_iload hx hb dX12_look_134 (lv_at hl 2 rfl) ?_
                      refine lv_istore (lv' := [(6, .int x6_21), (5, .int (fn_X12_nextIn mo_many mheights_a x5_21 x6_21)), (7, .int (fn_X12_nextIn mo_many mheights_a x5_21 x6_21)), (0, .ref mo), (1, .int a), (2, .int b), (3, .int d), (4, .int e1)]) hx hb dX12_look_136 hl (by decide) rfl (fun ls hl => ?_)
                      refine lv_goto (tgt := 144) hx hb dX12_look_138 (by decide) ?_
                      refine lv_goto (tgt := 21) hx hb dX12_look_144 (by decide) ?_
                      have k_18 := wk_rng (fn_X12_nextIn mo_many mheights_a x5_21 x6_21)
                      have k_19 := wk_rng x6_21
                      exact ih_21 (fn_X12_nextIn mo_many mheights_a x5_21 x6_21) x6_21 mo_foundAt_21 (mo_foundLooks_21 + 1) mo_foundLane_21 _ _ _ (show (-1) ≤ (fn_X12_nextIn mo_many mheights_a x5_21 x6_21).toInt ∧ (fn_X12_nextIn mo_many mheights_a x5_21 x6_21).toInt ≤ 7 from by omega) (show (-1) ≤ mo_foundAt_21.toInt ∧ mo_foundAt_21.toInt ≤ 7 from by omega) (wk_lex1 hm (show x5_21.toInt < (fn_X12_nextIn mo_many mheights_a x5_21 x6_21).toInt from by omega) (wk_rngU x6_21) (show 0 ≤ x6_21.toInt from by omega)) hF (wk_sub9 (is := [1, 0, 2]) hP rfl) (hD.sub [1, 0, 2] rfl rfl) hS (lv_sub hl [0, 1, 3, 4, 5, 6, 7] rfl)
                    · have k_17 : ¬ e1.toInt = 0 := wk_neq c_17
                      replace hF := hF.trans (pm2_n1 c_17)
                      refine lv_aload_n hx hb dX12_look_122 rfl (lv_at hl 3 rfl) ?_
                      refine va_get (D := D) (ci := 12) (v := .ref mheights) (C := RX12) (T := TX12) (N := 44) hx hb htb inX12 hown hK hP 1 rfl rfl 10 (by decide) (htb _ tw_773) (fun _ h9 => h9) rfl dX12_look_123 ?_
                      refine lv_iload hx hb dX12_look_126 (lv_at hl 1 rfl) ?_
                      refine va_iald hx hb hK hP 2 0 rfl rfl (show vp_in (fn_X12_nextIn mo_many mheights_a x5_21 x6_21) 8 from vp_in_iff.mpr (show 0 ≤ (fn_X12_nextIn mo_many mheights_a x5_21 x6_21).toInt ∧ (fn_X12_nextIn mo_many mheights_a x5_21 x6_21).toInt < ((8 : Nat) : Int) from by omega)) dX12_look_128 ?_
                      refine lv_iconst (v := 1) hx hb dX12_look_129 (by decide) ?_
                      refine lv_isub hx hb dX12_look_130 ?_
                      refine lv_goto (tgt := 136) hx hb dX12_look_131 (by decide) ?_
                      refine lv_istore (lv' := [(6, .int ((mheights_a (fn_X12_nextIn mo_many mheights_a x5_21 x6_21).toNatClampNeg) - 1)), (5, .int (fn_X12_nextIn mo_many mheights_a x5_21 x6_21)), (7, .int (fn_X12_nextIn mo_many mheights_a x5_21 x6_21)), (0, .ref mo), (1, .int a), (2, .int b), (3, .int d), (4, .int e1)]) hx hb dX12_look_136 hl (by decide) rfl (fun ls hl => ?_)
                      refine lv_goto (tgt := 144) hx hb dX12_look_138 (by decide) ?_
                      refine lv_goto (tgt := 21) hx hb dX12_look_144 (by decide) ?_
                      have k_20 := wk_rng (fn_X12_nextIn mo_many mheights_a x5_21 x6_21)
                      have k_21 := wk_rng ((mheights_a (fn_X12_nextIn mo_many mheights_a x5_21 x6_21).toNatClampNeg) - 1)
                      exact ih_21 (fn_X12_nextIn mo_many mheights_a x5_21 x6_21) ((mheights_a (fn_X12_nextIn mo_many mheights_a x5_21 x6_21).toNatClampNeg) - 1) mo_foundAt_21 (mo_foundLooks_21 + 1) mo_foundLane_21 _ _ _ (show (-1) ≤ (fn_X12_nextIn mo_many mheights_a x5_21 x6_21).toInt ∧ (fn_X12_nextIn mo_many mheights_a x5_21 x6_21).toInt ≤ 7 from by omega) (show (-1) ≤ mo_foundAt_21.toInt ∧ mo_foundAt_21.toInt ≤ 7 from by omega) (wk_lex1 hm (show x5_21.toInt < (fn_X12_nextIn mo_many mheights_a x5_21 x6_21).toInt from by omega) (wk_rngU ((mheights_a (fn_X12_nextIn mo_many mheights_a x5_21 x6_21).toNatClampNeg) - 1)) (show 0 ≤ x6_21.toInt from by omega)) hF (wk_sub9 (is := [1, 0, 2]) hP rfl) (hD.sub [1, 0, 2] rfl rfl) hS (lv_sub hl [0, 1, 3, 4, 5, 6, 7] rfl)
              · have k_11 : (mkeys_a (fn_X12_nextIn mo_many mheights_a x5_21 x6_21).toNatClampNeg).toInt = d.toInt := wk_eq c_11
                replace hF := hF.trans (pm2_p1 c_11)
                refine lv_aload_n hx hb dX12_look_81 rfl (lv_at hl 3 rfl) ?_
                refine lv_iload hx hb dX12_look_82 (lv_at hl 0 rfl) ?_
                refine va_put (D := D) (ci := 12) (v := .int (fn_X12_nextIn mo_many mheights_a x5_21 x6_21)) (ty := .int) (C := RX12) (T := TX12) (N := 44) hx hb htb inX12 tyX12 tyX12_ok nmX12 hown hK hP hD hS 1 rfl rfl 17 (by decide) (htb _ tw_780) (fun _ h9 => h9) rfl (by decide +kernel) rfl rfl (Nat.le_of_ble_eq_true rfl) dX12_look_84 (fun H locs hP hD hS => ?_)
                have hP : va_P D classes [(mkeys, .inl (cy, 8, .inl mkeys_a)), (mo, .inr (12, [.ref mpage, .int mo_pageMany, .int mo_law, .int mo_many, .int mo_asked, .int mo_looksAll, .int mo_changes, .int mo_rowsRead, .ref mkeys, .ref mvalues, .ref mheights, .ref mheats, .int mo_secondMany, .ref msecondKeys, .ref msecondValues, .ref msecondHeights, .ref msecondHeats, .int (fn_X12_nextIn mo_many mheights_a x5_21 x6_21), .int (mo_foundLooks_21 + 1), .int mo_foundLane_21, .int mo_bestsDone, .ref msaved, .ref mbestHeights, .int mo_seenMany, .ref msights, .ref mby, .int mo_seedNow, .int mo_keptRow, .int mo_keptMany, .int mo_keptSecond, .int mo_keptAsked, .int mo_keptLooks, .int mo_keptChanges, .int mo_keptSeen, .ref mkeptKeys, .ref mkeptValues, .ref mkeptHeights, .ref mkeptHeats, .ref mkeptKeys2, .ref mkeptValues2, .ref mkeptHeights2, .ref mkeptHeats2, .ref mkeptSights, .long mo_hash])), (mheights, .inl (cy, 8, .inl mheights_a))] H := hP
                have hD : va_D A [(mkeys, .inl (cy, 8, .inl mkeys_a)), (mo, .inr (12, [.ref mpage, .int mo_pageMany, .int mo_law, .int mo_many, .int mo_asked, .int mo_looksAll, .int mo_changes, .int mo_rowsRead, .ref mkeys, .ref mvalues, .ref mheights, .ref mheats, .int mo_secondMany, .ref msecondKeys, .ref msecondValues, .ref msecondHeights, .ref msecondHeats, .int (fn_X12_nextIn mo_many mheights_a x5_21 x6_21), .int (mo_foundLooks_21 + 1), .int mo_foundLane_21, .int mo_bestsDone, .ref msaved, .ref mbestHeights, .int mo_seenMany, .ref msights, .ref mby, .int mo_seedNow, .int mo_keptRow, .int mo_keptMany, .int mo_keptSecond, .int mo_keptAsked, .int mo_keptLooks, .int mo_keptChanges, .int mo_keptSeen, .ref mkeptKeys, .ref mkeptValues, .ref mkeptHeights, .ref mkeptHeats, .ref mkeptKeys2, .ref mkeptValues2, .ref mkeptHeights2, .ref mkeptHeats2, .ref mkeptSights, .long mo_hash])), (mheights, .inl (cy, 8, .inl mheights_a))] := hD
                refine lv_aload_n hx hb dX12_look_87 rfl (lv_at hl 3 rfl) ?_
                refine lv_iload hx hb dX12_look_88 (lv_at hl 1 rfl) ?_
                refine va_put (D := D) (ci := 12) (v := .int x6_21) (ty := .int) (C := RX12) (T := TX12) (N := 44) hx hb htb inX12 tyX12 tyX12_ok nmX12 hown hK hP hD hS 1 rfl rfl 19 (by decide) (htb _ tw_782) (fun _ h9 => h9) rfl (by decide +kernel) rfl rfl (Nat.le_of_ble_eq_true rfl) dX12_look_90 (fun H locs hP hD hS => ?_)
                have hP : va_P D classes [(mkeys, .inl (cy, 8, .inl mkeys_a)), (mo, .inr (12, [.ref mpage, .int mo_pageMany, .int mo_law, .int mo_many, .int mo_asked, .int mo_looksAll, .int mo_changes, .int mo_rowsRead, .ref mkeys, .ref mvalues, .ref mheights, .ref mheats, .int mo_secondMany, .ref msecondKeys, .ref msecondValues, .ref msecondHeights, .ref msecondHeats, .int (fn_X12_nextIn mo_many mheights_a x5_21 x6_21), .int (mo_foundLooks_21 + 1), .int x6_21, .int mo_bestsDone, .ref msaved, .ref mbestHeights, .int mo_seenMany, .ref msights, .ref mby, .int mo_seedNow, .int mo_keptRow, .int mo_keptMany, .int mo_keptSecond, .int mo_keptAsked, .int mo_keptLooks, .int mo_keptChanges, .int mo_keptSeen, .ref mkeptKeys, .ref mkeptValues, .ref mkeptHeights, .ref mkeptHeats, .ref mkeptKeys2, .ref mkeptValues2, .ref mkeptHeights2, .ref mkeptHeats2, .ref mkeptSights, .long mo_hash])), (mheights, .inl (cy, 8, .inl mheights_a))] H := hP
                have hD : va_D A [(mkeys, .inl (cy, 8, .inl mkeys_a)), (mo, .inr (12, [.ref mpage, .int mo_pageMany, .int mo_law, .int mo_many, .int mo_asked, .int mo_looksAll, .int mo_changes, .int mo_rowsRead, .ref mkeys, .ref mvalues, .ref mheights, .ref mheats, .int mo_secondMany, .ref msecondKeys, .ref msecondValues, .ref msecondHeights, .ref msecondHeats, .int (fn_X12_nextIn mo_many mheights_a x5_21 x6_21), .int (mo_foundLooks_21 + 1), .int x6_21, .int mo_bestsDone, .ref msaved, .ref mbestHeights, .int mo_seenMany, .ref msights, .ref mby, .int mo_seedNow, .int mo_keptRow, .int mo_keptMany, .int mo_keptSecond, .int mo_keptAsked, .int mo_keptLooks, .int mo_keptChanges, .int mo_keptSeen, .ref mkeptKeys, .ref mkeptValues, .ref mkeptHeights, .ref mkeptHeats, .ref mkeptKeys2, .ref mkeptValues2, .ref mkeptHeights2, .ref mkeptHeats2, .ref mkeptSights, .long mo_hash])), (mheights, .inl (cy, 8, .inl mheights_a))] := hD
                refine lv_goto (tgt := 144) hx hb dX12_look_93 (by decide) ?_
                refine lv_goto (tgt := 21) hx hb dX12_look_144 (by decide) ?_
                have k_22 := wk_rng x5_21
                have k_23 := wk_rng x6_21
                exact ih_21 x5_21 x6_21 (fn_X12_nextIn mo_many mheights_a x5_21 x6_21) (mo_foundLooks_21 + 1) x6_21 _ _ _ (show (-1) ≤ x5_21.toInt ∧ x5_21.toInt ≤ 7 from by omega) (show (-1) ≤ (fn_X12_nextIn mo_many mheights_a x5_21 x6_21).toInt ∧ (fn_X12_nextIn mo_many mheights_a x5_21 x6_21).toInt ≤ 7 from by omega) (wk_lex3 hm (show mo_foundAt_21.toInt < (fn_X12_nextIn mo_many mheights_a x5_21 x6_21).toInt from by omega)) hF (wk_sub9 (is := [1, 0, 2]) hP rfl) (hD.sub [1, 0, 2] rfl rfl) hS (lv_sub hl [1, 2, 3, 4, 5, 6, 7] rfl)
          · have k_9 : (fn_X12_nextIn mo_many mheights_a x5_21 x6_21).toInt = (-1) := wk_eq c_9
            replace hF := hF.trans (pm2_p1 c_9)
            refine lv_iconst (v := 0) hx hb dX12_look_55 (by decide) ?_
            refine lv_goto (tgt := 60) hx hb dX12_look_56 (by decide) ?_
            refine lv_iadd hx hb dX12_look_60 ?_
            have k_24 : (mo_foundLooks_21 + 0).toInt = mo_foundLooks_21.toInt + 0 := wk_add mo_foundLooks_21.toInt 0 rfl rfl (by have h9 := wk_rng mo_foundLooks_21; omega) (by have h9 := wk_rng mo_foundLooks_21; omega)
            refine va_put (D := D) (ci := 12) (v := .int (mo_foundLooks_21 + 0)) (ty := .int) (C := RX12) (T := TX12) (N := 44) hx hb htb inX12 tyX12 tyX12_ok nmX12 hown hK hP hD hS 1 rfl rfl 18 (by decide) (htb _ tw_781) (fun _ h9 => h9) rfl (by decide +kernel) rfl rfl (Nat.le_of_ble_eq_true rfl) dX12_look_61 (fun H locs hP hD hS => ?_)
            have hP : va_P D classes [(mkeys, .inl (cy, 8, .inl mkeys_a)), (mo, .inr (12, [.ref mpage, .int mo_pageMany, .int mo_law, .int mo_many, .int mo_asked, .int mo_looksAll, .int mo_changes, .int mo_rowsRead, .ref mkeys, .ref mvalues, .ref mheights, .ref mheats, .int mo_secondMany, .ref msecondKeys, .ref msecondValues, .ref msecondHeights, .ref msecondHeats, .int mo_foundAt_21, .int (mo_foundLooks_21 + 0), .int mo_foundLane_21, .int mo_bestsDone, .ref msaved, .ref mbestHeights, .int mo_seenMany, .ref msights, .ref mby, .int mo_seedNow, .int mo_keptRow, .int mo_keptMany, .int mo_keptSecond, .int mo_keptAsked, .int mo_keptLooks, .int mo_keptChanges, .int mo_keptSeen, .ref mkeptKeys, .ref mkeptValues, .ref mkeptHeights, .ref mkeptHeats, .ref mkeptKeys2, .ref mkeptValues2, .ref mkeptHeights2, .ref mkeptHeats2, .ref mkeptSights, .long mo_hash])), (mheights, .inl (cy, 8, .inl mheights_a))] H := hP
            have hD : va_D A [(mkeys, .inl (cy, 8, .inl mkeys_a)), (mo, .inr (12, [.ref mpage, .int mo_pageMany, .int mo_law, .int mo_many, .int mo_asked, .int mo_looksAll, .int mo_changes, .int mo_rowsRead, .ref mkeys, .ref mvalues, .ref mheights, .ref mheats, .int mo_secondMany, .ref msecondKeys, .ref msecondValues, .ref msecondHeights, .ref msecondHeats, .int mo_foundAt_21, .int (mo_foundLooks_21 + 0), .int mo_foundLane_21, .int mo_bestsDone, .ref msaved, .ref mbestHeights, .int mo_seenMany, .ref msights, .ref mby, .int mo_seedNow, .int mo_keptRow, .int mo_keptMany, .int mo_keptSecond, .int mo_keptAsked, .int mo_keptLooks, .int mo_keptChanges, .int mo_keptSeen, .ref mkeptKeys, .ref mkeptValues, .ref mkeptHeights, .ref mkeptHeats, .ref mkeptKeys2, .ref mkeptValues2, .ref mkeptHeights2, .ref mkeptHeats2, .ref mkeptSights, .long mo_hash])), (mheights, .inl (cy, 8, .inl mheights_a))] := hD
            refine lv_iload hx hb dX12_look_64 (lv_at hl 0 rfl) ?_
            refine lv_iconst (v := (-1)) hx hb dX12_look_66 (by decide) ?_
            refine lv_icmp_eq (tgt := 96) hx hb dX12_look_67 (by decide) (fun c_25 => ?_) (fun c_25 => ?_)
            · have k_25 : (fn_X12_nextIn mo_many mheights_a x5_21 x6_21).toInt = (-1) := wk_eq c_25
              replace hF := hF.trans (pm2_p1 c_25)
              refine lv_iload hx hb dX12_look_96 (lv_at hl 0 rfl) ?_
              refine lv_iconst (v := (-1)) hx hb dX12_look_98 (by decide) ?_
              refine lv_icmp_eq (tgt := 141) hx hb dX12_look_99 (by decide) (fun c_26 => ?_) (fun c_26 => ?_)
              · have k_26 : (fn_X12_nextIn mo_many mheights_a x5_21 x6_21).toInt = (-1) := wk_eq c_26
                replace hF := hF.trans (pm2_p1 c_26)
                refine lv_iinc (v := (x6_21 + (-1))) (lv' := [(6, .int (x6_21 + (-1))), (7, .int (fn_X12_nextIn mo_many mheights_a x5_21 x6_21)), (5, .int x5_21), (0, .ref mo), (1, .int a), (2, .int b), (3, .int d), (4, .int e1)]) hx hb dX12_look_141 hl (k := 1) rfl rfl (by decide) rfl (fun ls hl => ?_)
                have k_27 : (x6_21 + (-1)).toInt = x6_21.toInt + (-1) := wk_add x6_21.toInt (-1) rfl rfl (by have h9 := wk_rng x6_21; omega) (by have h9 := wk_rng x6_21; omega)
                refine lv_goto (tgt := 21) hx hb dX12_look_144 (by decide) ?_
                have k_28 := wk_rng x5_21
                have k_29 := wk_rng (x6_21 + (-1))
                exact ih_21 x5_21 (x6_21 + (-1)) mo_foundAt_21 (mo_foundLooks_21 + 0) mo_foundLane_21 _ _ _ (show (-1) ≤ x5_21.toInt ∧ x5_21.toInt ≤ 7 from by omega) (show (-1) ≤ mo_foundAt_21.toInt ∧ mo_foundAt_21.toInt ≤ 7 from by omega) (wk_lex2 hm k_27) hF (wk_sub9 (is := [1, 0, 2]) hP rfl) (hD.sub [1, 0, 2] rfl rfl) hS (lv_sub hl [0, 2, 3, 4, 5, 6, 7] rfl)
              · have k_26 : ¬ (fn_X12_nextIn mo_many mheights_a x5_21 x6_21).toInt = (-1) := wk_neq c_26
                replace hF := hF.trans (pm2_n1 c_26)
                exfalso; omega
            · have k_25 : ¬ (fn_X12_nextIn mo_many mheights_a x5_21 x6_21).toInt = (-1) := wk_neq c_25
              replace hF := hF.trans (pm2_n1 c_25)
              exfalso; omega
  have k_30 := wk_rng a
  have k_31 := wk_rng b
  exact hlp_21 42949672960 a b (-1) 0 (-1) _ _ _ (show (-1) ≤ a.toInt ∧ a.toInt ≤ 7 from by omega) (show (-1) ≤ (-1) ∧ (-1) ≤ 7 from by omega) (show (7 - a.toInt) * 4294967296 + b.toInt + 2147483648 + (7 - (-1)) < ((42949672960 : Nat) : Int) from by omega) hF hP hD hS (lv_sub hl [0, 1, 2, 3, 4, 5, 6] rfl)
