def fn_X12_tapeAt (mo_law : Int32) (mo_many : Int32) (mkeys_a : Nat → Int32) (mvalues_a : Nat → Int32) (mheights_a : Nat → Int32) (a : Int32) : Int32 := (if (2 : Int32) ≤ a then (if mo_law = 0 then (if mo_many ≤ ((a - 2) / 5) then (-1) else (if ((a - 2) / 5) = (mo_many - 1) then (if ((a - 2) - (a - 2) / 5 * 5) = 4 then (-1) else (if ((a - 2) - (a - 2) / 5 * 5) = 4 then default else (if ((a - 2) - (a - 2) / 5 * 5) = 0 then (48 + ((mkeys_a ((a - 2) / 5).toNatClampNeg) / 10)) else (if ((a - 2) - (a - 2) / 5 * 5) = 1 then (48 + ((mkeys_a ((a - 2) / 5).toNatClampNeg) - (mkeys_a ((a - 2) / 5).toNatClampNeg) / 10 * 10)) else (if ((a - 2) - (a - 2) / 5 * 5) = 2 then (48 + (mvalues_a ((a - 2) / 5).toNatClampNeg)) else (48 + (mheights_a ((a - 2) / 5).toNatClampNeg))))))) else (if ((a - 2) - (a - 2) / 5 * 5) = 4 then 44 else (if ((a - 2) - (a - 2) / 5 * 5) = 0 then (48 + ((mkeys_a ((a - 2) / 5).toNatClampNeg) / 10)) else (if ((a - 2) - (a - 2) / 5 * 5) = 1 then (48 + ((mkeys_a ((a - 2) / 5).toNatClampNeg) - (mkeys_a ((a - 2) / 5).toNatClampNeg) / 10 * 10)) else (if ((a - 2) - (a - 2) / 5 * 5) = 2 then (48 + (mvalues_a ((a - 2) / 5).toNatClampNeg)) else (48 + (mheights_a ((a - 2) / 5).toNatClampNeg)))))))) else (if mo_many ≤ ((a - 2) / 4) then (-1) else (if ((a - 2) / 4) = (mo_many - 1) then (if ((a - 2) - (a - 2) / 4 * 4) = 3 then (-1) else (if ((a - 2) - (a - 2) / 4 * 4) = 3 then default else (if ((a - 2) - (a - 2) / 4 * 4) = 0 then (48 + ((mkeys_a ((a - 2) / 4).toNatClampNeg) / 10)) else (if ((a - 2) - (a - 2) / 4 * 4) = 1 then (48 + ((mkeys_a ((a - 2) / 4).toNatClampNeg) - (mkeys_a ((a - 2) / 4).toNatClampNeg) / 10 * 10)) else (if ((a - 2) - (a - 2) / 4 * 4) = 2 then (48 + (mvalues_a ((a - 2) / 4).toNatClampNeg)) else default))))) else (if ((a - 2) - (a - 2) / 4 * 4) = 3 then 44 else (if ((a - 2) - (a - 2) / 4 * 4) = 0 then (48 + ((mkeys_a ((a - 2) / 4).toNatClampNeg) / 10)) else (if ((a - 2) - (a - 2) / 4 * 4) = 1 then (48 + ((mkeys_a ((a - 2) / 4).toNatClampNeg) - (mkeys_a ((a - 2) / 4).toNatClampNeg) / 10 * 10)) else (if ((a - 2) - (a - 2) / 4 * 4) = 2 then (48 + (mvalues_a ((a - 2) / 4).toNatClampNeg)) else default))))))) else (if a = 0 then (fn_X12_signOf mo_law) else 59))
theorem dX12_tapeAt_0 : decode cX12_tapeAt 0 = .ok (.iload_n 1, 1) := by decide +kernel
theorem dX12_tapeAt_1 : decode cX12_tapeAt 1 = .ok (.iconst 2, 1) := by decide +kernel
theorem dX12_tapeAt_2 : decode cX12_tapeAt 2 = .ok (.if_icmp .ge 20, 3) := by decide +kernel
theorem dX12_tapeAt_5 : decode cX12_tapeAt 5 = .ok (.iload_n 1, 1) := by decide +kernel
theorem dX12_tapeAt_6 : decode cX12_tapeAt 6 = .ok (.ifCond .ne 13, 3) := by decide +kernel
theorem dX12_tapeAt_9 : decode cX12_tapeAt 9 = .ok (.aload_n 0, 1) := by decide +kernel
theorem dX12_tapeAt_10 : decode cX12_tapeAt 10 = .ok (.getfield 118, 3) := by decide +kernel
theorem dX12_tapeAt_13 : decode cX12_tapeAt 13 = .ok (.invokestatic 237, 3) := by decide +kernel
theorem dX12_tapeAt_16 : decode cX12_tapeAt 16 = .ok (.goto 5, 3) := by decide +kernel
theorem dX12_tapeAt_19 : decode cX12_tapeAt 19 = .ok (.bipush 59, 2) := by decide +kernel
theorem dX12_tapeAt_21 : decode cX12_tapeAt 21 = .ok (.ireturn, 1) := by decide +kernel
theorem dX12_tapeAt_22 : decode cX12_tapeAt 22 = .ok (.aload_n 0, 1) := by decide +kernel
theorem dX12_tapeAt_23 : decode cX12_tapeAt 23 = .ok (.getfield 118, 3) := by decide +kernel
theorem dX12_tapeAt_26 : decode cX12_tapeAt 26 = .ok (.ifCond .ne 7, 3) := by decide +kernel
theorem dX12_tapeAt_29 : decode cX12_tapeAt 29 = .ok (.iconst 5, 1) := by decide +kernel
theorem dX12_tapeAt_30 : decode cX12_tapeAt 30 = .ok (.goto 4, 3) := by decide +kernel
theorem dX12_tapeAt_33 : decode cX12_tapeAt 33 = .ok (.iconst 4, 1) := by decide +kernel
theorem dX12_tapeAt_34 : decode cX12_tapeAt 34 = .ok (.istore_n 2, 1) := by decide +kernel
theorem dX12_tapeAt_35 : decode cX12_tapeAt 35 = .ok (.iload_n 1, 1) := by decide +kernel
theorem dX12_tapeAt_36 : decode cX12_tapeAt 36 = .ok (.iconst 2, 1) := by decide +kernel
theorem dX12_tapeAt_37 : decode cX12_tapeAt 37 = .ok (.isub, 1) := by decide +kernel
theorem dX12_tapeAt_38 : decode cX12_tapeAt 38 = .ok (.iload_n 2, 1) := by decide +kernel
theorem dX12_tapeAt_39 : decode cX12_tapeAt 39 = .ok (.idiv, 1) := by decide +kernel
theorem dX12_tapeAt_40 : decode cX12_tapeAt 40 = .ok (.istore_n 3, 1) := by decide +kernel
theorem dX12_tapeAt_41 : decode cX12_tapeAt 41 = .ok (.iload_n 1, 1) := by decide +kernel
theorem dX12_tapeAt_42 : decode cX12_tapeAt 42 = .ok (.iconst 2, 1) := by decide +kernel
theorem dX12_tapeAt_43 : decode cX12_tapeAt 43 = .ok (.isub, 1) := by decide +kernel
theorem dX12_tapeAt_44 : decode cX12_tapeAt 44 = .ok (.iload_n 2, 1) := by decide +kernel
theorem dX12_tapeAt_45 : decode cX12_tapeAt 45 = .ok (.irem, 1) := by decide +kernel
theorem dX12_tapeAt_46 : decode cX12_tapeAt 46 = .ok (.istore 4, 2) := by decide +kernel
theorem dX12_tapeAt_48 : decode cX12_tapeAt 48 = .ok (.iload_n 3, 1) := by decide +kernel
theorem dX12_tapeAt_49 : decode cX12_tapeAt 49 = .ok (.aload_n 0, 1) := by decide +kernel
theorem dX12_tapeAt_50 : decode cX12_tapeAt 50 = .ok (.getfield 121, 3) := by decide +kernel
theorem dX12_tapeAt_53 : decode cX12_tapeAt 53 = .ok (.if_icmp .ge 21, 3) := by decide +kernel
theorem dX12_tapeAt_56 : decode cX12_tapeAt 56 = .ok (.iload_n 3, 1) := by decide +kernel
theorem dX12_tapeAt_57 : decode cX12_tapeAt 57 = .ok (.aload_n 0, 1) := by decide +kernel
theorem dX12_tapeAt_58 : decode cX12_tapeAt 58 = .ok (.getfield 121, 3) := by decide +kernel
theorem dX12_tapeAt_61 : decode cX12_tapeAt 61 = .ok (.iconst 1, 1) := by decide +kernel
theorem dX12_tapeAt_62 : decode cX12_tapeAt 62 = .ok (.isub, 1) := by decide +kernel
theorem dX12_tapeAt_63 : decode cX12_tapeAt 63 = .ok (.if_icmp .ne 13, 3) := by decide +kernel
theorem dX12_tapeAt_66 : decode cX12_tapeAt 66 = .ok (.iload 4, 2) := by decide +kernel
theorem dX12_tapeAt_68 : decode cX12_tapeAt 68 = .ok (.iload_n 2, 1) := by decide +kernel
theorem dX12_tapeAt_69 : decode cX12_tapeAt 69 = .ok (.iconst 1, 1) := by decide +kernel
theorem dX12_tapeAt_70 : decode cX12_tapeAt 70 = .ok (.isub, 1) := by decide +kernel
theorem dX12_tapeAt_71 : decode cX12_tapeAt 71 = .ok (.if_icmp .ne 5, 3) := by decide +kernel
theorem dX12_tapeAt_74 : decode cX12_tapeAt 74 = .ok (.iconst (-1), 1) := by decide +kernel
theorem dX12_tapeAt_75 : decode cX12_tapeAt 75 = .ok (.ireturn, 1) := by decide +kernel
theorem dX12_tapeAt_76 : decode cX12_tapeAt 76 = .ok (.iload 4, 2) := by decide +kernel
theorem dX12_tapeAt_78 : decode cX12_tapeAt 78 = .ok (.iload_n 2, 1) := by decide +kernel
theorem dX12_tapeAt_79 : decode cX12_tapeAt 79 = .ok (.iconst 1, 1) := by decide +kernel
theorem dX12_tapeAt_80 : decode cX12_tapeAt 80 = .ok (.isub, 1) := by decide +kernel
theorem dX12_tapeAt_81 : decode cX12_tapeAt 81 = .ok (.if_icmp .ne 6, 3) := by decide +kernel
theorem dX12_tapeAt_84 : decode cX12_tapeAt 84 = .ok (.bipush 44, 2) := by decide +kernel
theorem dX12_tapeAt_86 : decode cX12_tapeAt 86 = .ok (.ireturn, 1) := by decide +kernel
theorem dX12_tapeAt_87 : decode cX12_tapeAt 87 = .ok (.iload 4, 2) := by decide +kernel
theorem dX12_tapeAt_89 : decode cX12_tapeAt 89 = .ok (.ifCond .ne 15, 3) := by decide +kernel
theorem dX12_tapeAt_92 : decode cX12_tapeAt 92 = .ok (.aload_n 0, 1) := by decide +kernel
theorem dX12_tapeAt_93 : decode cX12_tapeAt 93 = .ok (.getfield 13, 3) := by decide +kernel
theorem dX12_tapeAt_96 : decode cX12_tapeAt 96 = .ok (.iload_n 3, 1) := by decide +kernel
theorem dX12_tapeAt_97 : decode cX12_tapeAt 97 = .ok (.iaload, 1) := by decide +kernel
theorem dX12_tapeAt_98 : decode cX12_tapeAt 98 = .ok (.bipush 10, 2) := by decide +kernel
theorem dX12_tapeAt_100 : decode cX12_tapeAt 100 = .ok (.idiv, 1) := by decide +kernel
theorem dX12_tapeAt_101 : decode cX12_tapeAt 101 = .ok (.goto 42, 3) := by decide +kernel
theorem dX12_tapeAt_104 : decode cX12_tapeAt 104 = .ok (.iload 4, 2) := by decide +kernel
theorem dX12_tapeAt_106 : decode cX12_tapeAt 106 = .ok (.iconst 1, 1) := by decide +kernel
theorem dX12_tapeAt_107 : decode cX12_tapeAt 107 = .ok (.if_icmp .ne 15, 3) := by decide +kernel
theorem dX12_tapeAt_110 : decode cX12_tapeAt 110 = .ok (.aload_n 0, 1) := by decide +kernel
theorem dX12_tapeAt_111 : decode cX12_tapeAt 111 = .ok (.getfield 13, 3) := by decide +kernel
theorem dX12_tapeAt_114 : decode cX12_tapeAt 114 = .ok (.iload_n 3, 1) := by decide +kernel
theorem dX12_tapeAt_115 : decode cX12_tapeAt 115 = .ok (.iaload, 1) := by decide +kernel
theorem dX12_tapeAt_116 : decode cX12_tapeAt 116 = .ok (.bipush 10, 2) := by decide +kernel
theorem dX12_tapeAt_118 : decode cX12_tapeAt 118 = .ok (.irem, 1) := by decide +kernel
theorem dX12_tapeAt_119 : decode cX12_tapeAt 119 = .ok (.goto 24, 3) := by decide +kernel
theorem dX12_tapeAt_122 : decode cX12_tapeAt 122 = .ok (.iload 4, 2) := by decide +kernel
theorem dX12_tapeAt_124 : decode cX12_tapeAt 124 = .ok (.iconst 2, 1) := by decide +kernel
theorem dX12_tapeAt_125 : decode cX12_tapeAt 125 = .ok (.if_icmp .ne 12, 3) := by decide +kernel
theorem dX12_tapeAt_128 : decode cX12_tapeAt 128 = .ok (.aload_n 0, 1) := by decide +kernel
theorem dX12_tapeAt_129 : decode cX12_tapeAt 129 = .ok (.getfield 16, 3) := by decide +kernel
theorem dX12_tapeAt_132 : decode cX12_tapeAt 132 = .ok (.iload_n 3, 1) := by decide +kernel
theorem dX12_tapeAt_133 : decode cX12_tapeAt 133 = .ok (.iaload, 1) := by decide +kernel
theorem dX12_tapeAt_134 : decode cX12_tapeAt 134 = .ok (.goto 9, 3) := by decide +kernel
theorem dX12_tapeAt_137 : decode cX12_tapeAt 137 = .ok (.aload_n 0, 1) := by decide +kernel
theorem dX12_tapeAt_138 : decode cX12_tapeAt 138 = .ok (.getfield 19, 3) := by decide +kernel
theorem dX12_tapeAt_141 : decode cX12_tapeAt 141 = .ok (.iload_n 3, 1) := by decide +kernel
theorem dX12_tapeAt_142 : decode cX12_tapeAt 142 = .ok (.iaload, 1) := by decide +kernel
theorem dX12_tapeAt_143 : decode cX12_tapeAt 143 = .ok (.istore 5, 2) := by decide +kernel
theorem dX12_tapeAt_145 : decode cX12_tapeAt 145 = .ok (.bipush 48, 2) := by decide +kernel
theorem dX12_tapeAt_147 : decode cX12_tapeAt 147 = .ok (.iload 5, 2) := by decide +kernel
theorem dX12_tapeAt_149 : decode cX12_tapeAt 149 = .ok (.iadd, 1) := by decide +kernel
theorem dX12_tapeAt_150 : decode cX12_tapeAt 150 = .ok (.ireturn, 1) := by decide +kernel
set_option maxHeartbeats 4000000 in
set_option maxRecDepth 100000 in
theorem c_X12_tapeAt (l : Launch) (D : va_G) (cy : ClassId) (mo mpage mkeys mvalues mheights mheats msecondKeys msecondValues msecondHeights msecondHeats msaved mbestHeights msights mby mkeptKeys mkeptValues mkeptHeights mkeptHeats mkeptKeys2 mkeptValues2 mkeptHeights2 mkeptHeats2 mkeptSights : Nat) (mo_pageMany : Int32) (mo_law : Int32) (mo_many : Int32) (mo_asked : Int32) (mo_looksAll : Int32) (mo_changes : Int32) (mo_rowsRead : Int32) (mo_secondMany : Int32) (mo_foundAt : Int32) (mo_foundLooks : Int32) (mo_foundLane : Int32) (mo_bestsDone : Int32) (mo_seenMany : Int32) (mo_seedNow : Int32) (mo_keptRow : Int32) (mo_keptMany : Int32) (mo_keptSecond : Int32) (mo_keptAsked : Int32) (mo_keptLooks : Int32) (mo_keptChanges : Int32) (mo_keptSeen : Int32) (mo_hash : Int64) (mkeys_a : Nat → Int32) (mvalues_a : Nat → Int32) (mheights_a : Nat → Int32) (a : Int32) (g_0 : 0 ≤ mo_pageMany.toInt ∧ mo_pageMany.toInt ≤ 44) (g_1 : 0 ≤ mo_many.toInt ∧ mo_many.toInt ≤ 8) (g_2 : 0 ≤ mo_secondMany.toInt ∧ mo_secondMany.toInt ≤ 8) (g_3 : (-1) ≤ mo_foundAt.toInt ∧ mo_foundAt.toInt ≤ 7) (g_4 : 0 ≤ mo_seenMany.toInt ∧ mo_seenMany.toInt ≤ 6) (g_5 : 0 ≤ mo_keptMany.toInt ∧ mo_keptMany.toInt ≤ 8) (g_6 : 0 ≤ mo_keptSecond.toInt ∧ mo_keptSecond.toInt ≤ 8) (g_7 : 0 ≤ mo_keptSeen.toInt ∧ mo_keptSeen.toInt ≤ 6) (g_8 : 0 ≤ a.toInt ∧ a.toInt ≤ 60) : wk_Ci l yX12_tapeAt cX12_tapeAt 6 (some .int) { frames := 1, cells := 0, slots := 0, locals := 20 } D cy [.ref mo, .int a] [(mo, .inr (12, [.ref mpage, .int mo_pageMany, .int mo_law, .int mo_many, .int mo_asked, .int mo_looksAll, .int mo_changes, .int mo_rowsRead, .ref mkeys, .ref mvalues, .ref mheights, .ref mheats, .int mo_secondMany, .ref msecondKeys, .ref msecondValues, .ref msecondHeights, .ref msecondHeats, .int mo_foundAt, .int mo_foundLooks, .int mo_foundLane, .int mo_bestsDone, .ref msaved, .ref mbestHeights, .int mo_seenMany, .ref msights, .ref mby, .int mo_seedNow, .int mo_keptRow, .int mo_keptMany, .int mo_keptSecond, .int mo_keptAsked, .int mo_keptLooks, .int mo_keptChanges, .int mo_keptSeen, .ref mkeptKeys, .ref mkeptValues, .ref mkeptHeights, .ref mkeptHeats, .ref mkeptKeys2, .ref mkeptValues2, .ref mkeptHeights2, .ref mkeptHeats2, .ref mkeptSights, .long mo_hash])), (mkeys, .inl (cy, 8, .inl mkeys_a)), (mvalues, .inl (cy, 8, .inl mvalues_a)), (mheights, .inl (cy, 8, .inl mheights_a))] 0 0 (fun (r : Int32) (u : Unit) => r = (fn_X12_tapeAt mo_law mo_many mkeys_a mvalues_a mheights_a a) ∧ (wk_or (r.toInt = (-1)) (a.toInt ≤ 41))) (fun u => [(mo, .inr (12, [.ref mpage, .int mo_pageMany, .int mo_law, .int mo_many, .int mo_asked, .int mo_looksAll, .int mo_changes, .int mo_rowsRead, .ref mkeys, .ref mvalues, .ref mheights, .ref mheats, .int mo_secondMany, .ref msecondKeys, .ref msecondValues, .ref msecondHeights, .ref msecondHeats, .int mo_foundAt, .int mo_foundLooks, .int mo_foundLane, .int mo_bestsDone, .ref msaved, .ref mbestHeights, .int mo_seenMany, .ref msights, .ref mby, .int mo_seedNow, .int mo_keptRow, .int mo_keptMany, .int mo_keptSecond, .int mo_keptAsked, .int mo_keptLooks, .int mo_keptChanges, .int mo_keptSeen, .ref mkeptKeys, .ref mkeptValues, .ref mkeptHeights, .ref mkeptHeats, .ref mkeptKeys2, .ref mkeptValues2, .ref mkeptHeights2, .ref mkeptHeats2, .ref mkeptSights, .long mo_hash])), (mkeys, .inl (cy, 8, .inl mkeys_a)), (mvalues, .inl (cy, 8, .inl mvalues_a)), (mheights, .inl (cy, 8, .inl mheights_a))]) := by
  refine wk_mk2Ci (by decide) (Nat.le_of_ble_eq_true rfl) ?_
  intro p e s m args below meth c A ls Q B hA hK hP hD hS hl hret
  obtain ⟨hx, hb, hr, hlocks, hml, hown, htb, hin⟩ := B
  have hl : lv_has ls 6 [(0, .ref mo), (1, .int a)] := hl
  have hF : (fn_X12_tapeAt mo_law mo_many mkeys_a mvalues_a mheights_a a) = (fn_X12_tapeAt mo_law mo_many mkeys_a mvalues_a mheights_a a) := rfl
  conv at hF => rhs; unfold fn_X12_tapeAt
  refine lv_iload_n hx hb dX12_tapeAt_0 rfl (lv_at hl 1 rfl) ?_
  refine lv_iconst (v := 2) hx hb dX12_tapeAt_1 (by decide) ?_
  refine lv_icmp_ge (tgt := 22) hx hb dX12_tapeAt_2 (by decide) (fun c_1 => ?_) (fun c_1 => ?_)
  · have k_1 : 2 ≤ a.toInt := wk_le c_1
    replace hF := hF.trans (if_pos c_1)
    refine lv_aload_n hx hb dX12_tapeAt_22 rfl (lv_at hl 0 rfl) ?_
    refine va_get (D := D) (ci := 12) (v := .int mo_law) (C := RX12) (T := TX12) (N := 44) hx hb htb inX12 hown hK hP 0 rfl rfl 2 (by decide) (htb _ tw_765) (fun _ h9 => h9) rfl dX12_tapeAt_23 ?_
    refine lv_if_ne (tgt := 33) hx hb dX12_tapeAt_26 (by decide) (fun c_2 => ?_) (fun c_2 => ?_)
    · have k_2 : ¬ mo_law.toInt = 0 := wk_neq c_2
      replace hF := hF.trans (if_neg c_2)
      refine lv_iconst (v := 4) hx hb dX12_tapeAt_33 (by decide) ?_
      refine lv_istore_n (lv' := [(2, .int 4), (0, .ref mo), (1, .int a)]) hx hb dX12_tapeAt_34 rfl hl (by decide) rfl (fun ls hl => ?_)
      refine lv_iload_n hx hb dX12_tapeAt_35 rfl (lv_at hl 2 rfl) ?_
      refine lv_iconst (v := 2) hx hb dX12_tapeAt_36 (by decide) ?_
      refine lv_isub hx hb dX12_tapeAt_37 ?_
      obtain ⟨z_3, ez_3⟩ : ∃ y : Int32, y = (a - 2) := ⟨_, rfl⟩
      refine wk_toi ez_3.symm ?_
      try rw [← ez_3] at hF
      have k_4 : z_3.toInt = a.toInt - 2 := by rw [ez_3]; exact wk_sub a.toInt 2 rfl rfl (by omega) (by omega)
      refine lv_iload_n hx hb dX12_tapeAt_38 rfl (lv_at hl 0 rfl) ?_
      refine lv_idiv hx hb dX12_tapeAt_39 (by decide) ?_
      have k_5 : (z_3 / 4).toInt = z_3.toInt / 4 := wk_div 4 rfl (by omega) (by decide)
      refine lv_istore_n (lv' := [(3, .int (z_3 / 4)), (2, .int 4), (0, .ref mo), (1, .int a)]) hx hb dX12_tapeAt_40 rfl hl (by decide) rfl (fun ls hl => ?_)
      refine lv_iload_n hx hb dX12_tapeAt_41 rfl (lv_at hl 3 rfl) ?_
      refine lv_iconst (v := 2) hx hb dX12_tapeAt_42 (by decide) ?_
      refine lv_isub hx hb dX12_tapeAt_43 ?_
      refine wk_toi ez_3.symm ?_
      refine lv_iload_n hx hb dX12_tapeAt_44 rfl (lv_at hl 1 rfl) ?_
      refine lv_irem hx hb dX12_tapeAt_45 (by decide) ?_
      have k_6 : (z_3 - z_3 / 4 * 4).toInt = z_3.toInt % 4 := wk_rem 4 rfl (by omega) (by decide)
      refine lv_istore (lv' := [(4, .int (z_3 - z_3 / 4 * 4)), (3, .int (z_3 / 4)), (2, .int 4), (0, .ref mo), (1, .int a)]) hx hb dX12_tapeAt_46 hl (by decide) rfl (fun ls hl => ?_)
      refine lv_iload_n hx hb dX12_tapeAt_48 rfl (lv_at hl 1 rfl) ?_
      refine lv_aload_n hx hb dX12_tapeAt_49 rfl (lv_at hl 3 rfl) ?_
      refine va_get (D := D) (ci := 12) (v := .int mo_many) (C := RX12) (T := TX12) (N := 44) hx hb htb inX12 hown hK hP 0 rfl rfl 3 (by decide) (htb _ tw_766) (fun _ h9 => h9) rfl dX12_tapeAt_50 ?_
      refine lv_icmp_ge (tgt := 74) hx hb dX12_tapeAt_53 (by decide) (fun c_7 => ?_) (fun c_7 => ?_)
      · have k_7 : mo_many.toInt ≤ (z_3 / 4).toInt := wk_le c_7
        replace hF := hF.trans (if_pos c_7)
        refine lv_iconst (v := (-1)) hx hb dX12_tapeAt_74 (by decide) ?_
        refine W.widen (k := 0) (n := 0) (by decide) (by decide) ?_
        exact hret (-1) () _ _ _ 75 (wk_sub9 (is := [0, 1, 2, 3]) hP rfl) (hD.sub [0, 1, 2, 3] rfl rfl) hS dX12_tapeAt_75 ⟨hF.symm, (wk_orI (show ((-1) : Int) = (-1) ∨ (a.toInt ≤ 41) from by omega))⟩
      · have k_7 : ¬ mo_many.toInt ≤ (z_3 / 4).toInt := wk_nle c_7
        replace hF := hF.trans (if_neg c_7)
        refine lv_iload_n hx hb dX12_tapeAt_56 rfl (lv_at hl 1 rfl) ?_
        refine lv_aload_n hx hb dX12_tapeAt_57 rfl (lv_at hl 3 rfl) ?_
        refine va_get (D := D) (ci := 12) (v := .int mo_many) (C := RX12) (T := TX12) (N := 44) hx hb htb inX12 hown hK hP 0 rfl rfl 3 (by decide) (htb _ tw_766) (fun _ h9 => h9) rfl dX12_tapeAt_58 ?_
        refine lv_iconst (v := 1) hx hb dX12_tapeAt_61 (by decide) ?_
        refine lv_isub hx hb dX12_tapeAt_62 ?_
        obtain ⟨z_8, ez_8⟩ : ∃ y : Int32, y = (mo_many - 1) := ⟨_, rfl⟩
        refine wk_toi ez_8.symm ?_
        try rw [← ez_8] at hF
        have k_9 : z_8.toInt = mo_many.toInt - 1 := by rw [ez_8]; exact wk_sub mo_many.toInt 1 rfl rfl (by omega) (by omega)
        refine lv_icmp_ne (tgt := 76) hx hb dX12_tapeAt_63 (by decide) (fun c_10 => ?_) (fun c_10 => ?_)
        · have k_10 : ¬ (z_3 / 4).toInt = z_8.toInt := wk_neq c_10
          replace hF := hF.trans (if_neg c_10)
          refine lv_iload hx hb dX12_tapeAt_76 (lv_at hl 0 rfl) ?_
          refine lv_iload_n hx hb dX12_tapeAt_78 rfl (lv_at hl 2 rfl) ?_
          refine lv_iconst (v := 1) hx hb dX12_tapeAt_79 (by decide) ?_
          refine lv_isub hx hb dX12_tapeAt_80 ?_
          refine wk_toi (show ((4 - 1) : Int32) = 3 by decide) ?_
          refine lv_icmp_ne (tgt := 87) hx hb dX12_tapeAt_81 (by decide) (fun c_11 => ?_) (fun c_11 => ?_)
          · have k_11 : ¬ (z_3 - z_3 / 4 * 4).toInt = 3 := wk_neq c_11
            replace hF := hF.trans (if_neg c_11)
            refine lv_iload hx hb dX12_tapeAt_87 (lv_at hl 0 rfl) ?_
            refine lv_if_ne (tgt := 104) hx hb dX12_tapeAt_89 (by decide) (fun c_12 => ?_) (fun c_12 => ?_)
            · have k_12 : ¬ (z_3 - z_3 / 4 * 4).toInt = 0 := wk_neq c_12
              replace hF := hF.trans (if_neg c_12)
              refine lv_iload hx hb dX12_tapeAt_104 (lv_at hl 0 rfl) ?_
              refine lv_iconst (v := 1) hx hb dX12_tapeAt_106 (by decide) ?_
              refine lv_icmp_ne (tgt := 122) hx hb dX12_tapeAt_107 (by decide) (fun c_13 => ?_) (fun c_13 => ?_)
              · have k_13 : ¬ (z_3 - z_3 / 4 * 4).toInt = 1 := wk_neq c_13
                replace hF := hF.trans (if_neg c_13)
                refine lv_iload hx hb dX12_tapeAt_122 (lv_at hl 0 rfl) ?_
                refine lv_iconst (v := 2) hx hb dX12_tapeAt_124 (by decide) ?_
                refine lv_icmp_ne (tgt := 137) hx hb dX12_tapeAt_125 (by decide) (fun c_14 => ?_) (fun c_14 => ?_)
                · have k_14 : ¬ (z_3 - z_3 / 4 * 4).toInt = 2 := wk_neq c_14
                  replace hF := hF.trans (if_neg c_14)
                  exfalso; omega
                · have k_14 : (z_3 - z_3 / 4 * 4).toInt = 2 := wk_eq c_14
                  replace hF := hF.trans (if_pos c_14)
                  refine lv_aload_n hx hb dX12_tapeAt_128 rfl (lv_at hl 3 rfl) ?_
                  refine va_get (D := D) (ci := 12) (v := .ref mvalues) (C := RX12) (T := TX12) (N := 44) hx hb htb inX12 hown hK hP 0 rfl rfl 9 (by decide) (htb _ tw_772) (fun _ h9 => h9) rfl dX12_tapeAt_129 ?_
                  refine lv_iload_n hx hb dX12_tapeAt_132 rfl (lv_at hl 1 rfl) ?_
                  refine va_iald hx hb hK hP 2 0 rfl rfl (show vp_in (z_3 / 4) 8 from vp_in_iff.mpr (show 0 ≤ (z_3 / 4).toInt ∧ (z_3 / 4).toInt < ((8 : Nat) : Int) from by omega)) dX12_tapeAt_133 ?_
                  refine lv_goto (tgt := 143) hx hb dX12_tapeAt_134 (by decide) ?_
                  refine lv_istore (lv' := [(5, .int (mvalues_a (z_3 / 4).toNatClampNeg)), (4, .int (z_3 - z_3 / 4 * 4)), (3, .int (z_3 / 4)), (2, .int 4), (0, .ref mo), (1, .int a)]) hx hb dX12_tapeAt_143 hl (by decide) rfl (fun ls hl => ?_)
                  refine lv_bipush (v := 48) hx hb dX12_tapeAt_145 (by decide) ?_
                  refine lv_iload hx hb dX12_tapeAt_147 (lv_at hl 0 rfl) ?_
                  refine lv_iadd hx hb dX12_tapeAt_149 ?_
                  refine W.widen (k := 0) (n := 0) (by decide) (by decide) ?_
                  exact hret (48 + (mvalues_a (z_3 / 4).toNatClampNeg)) () _ _ _ 150 (wk_sub9 (is := [0, 1, 2, 3]) hP rfl) (hD.sub [0, 1, 2, 3] rfl rfl) hS dX12_tapeAt_150 ⟨hF.symm, (wk_orI (show ((48 + (mvalues_a (z_3 / 4).toNatClampNeg)).toInt : Int) = (-1) ∨ (a.toInt ≤ 41) from by omega))⟩
              · have k_13 : (z_3 - z_3 / 4 * 4).toInt = 1 := wk_eq c_13
                replace hF := hF.trans (if_pos c_13)
                refine lv_aload_n hx hb dX12_tapeAt_110 rfl (lv_at hl 3 rfl) ?_
                refine va_get (D := D) (ci := 12) (v := .ref mkeys) (C := RX12) (T := TX12) (N := 44) hx hb htb inX12 hown hK hP 0 rfl rfl 8 (by decide) (htb _ tw_771) (fun _ h9 => h9) rfl dX12_tapeAt_111 ?_
                refine lv_iload_n hx hb dX12_tapeAt_114 rfl (lv_at hl 1 rfl) ?_
                refine va_iald hx hb hK hP 1 0 rfl rfl (show vp_in (z_3 / 4) 8 from vp_in_iff.mpr (show 0 ≤ (z_3 / 4).toInt ∧ (z_3 / 4).toInt < ((8 : Nat) : Int) from by omega)) dX12_tapeAt_115 ?_
                refine lv_bipush (v := 10) hx hb dX12_tapeAt_116 (by decide) ?_
                refine lv_irem hx hb dX12_tapeAt_118 (by decide) ?_
                refine lv_goto (tgt := 143) hx hb dX12_tapeAt_119 (by decide) ?_
                refine lv_istore (lv' := [(5, .int ((mkeys_a (z_3 / 4).toNatClampNeg) - (mkeys_a (z_3 / 4).toNatClampNeg) / 10 * 10)), (4, .int (z_3 - z_3 / 4 * 4)), (3, .int (z_3 / 4)), (2, .int 4), (0, .ref mo), (1, .int a)]) hx hb dX12_tapeAt_143 hl (by decide) rfl (fun ls hl => ?_)
                refine lv_bipush (v := 48) hx hb dX12_tapeAt_145 (by decide) ?_
                refine lv_iload hx hb dX12_tapeAt_147 (lv_at hl 0 rfl) ?_
                refine lv_iadd hx hb dX12_tapeAt_149 ?_
                refine W.widen (k := 0) (n := 0) (by decide) (by decide) ?_
                exact hret (48 + ((mkeys_a (z_3 / 4).toNatClampNeg) - (mkeys_a (z_3 / 4).toNatClampNeg) / 10 * 10)) () _ _ _ 150 (wk_sub9 (is := [0, 1, 2, 3]) hP rfl) (hD.sub [0, 1, 2, 3] rfl rfl) hS dX12_tapeAt_150 ⟨hF.symm, (wk_orI (show ((48 + ((mkeys_a (z_3 / 4).toNatClampNeg) - (mkeys_a (z_3 / 4).toNatClampNeg) / 10 * 10)).toInt : Int) = (-1) ∨ (a.toInt ≤ 41) from by omega))⟩
            · have k_12 : (z_3 - z_3 / 4 * 4).toInt = 0 := wk_eq c_12
              replace hF := hF.trans (if_pos c_12)
              refine lv_aload_n hx hb dX12_tapeAt_92 rfl (lv_at hl 3 rfl) ?_
              refine va_get (D := D) (ci := 12) (v := .ref mkeys) (C := RX12) (T := TX12) (N := 44) hx hb htb inX12 hown hK hP 0 rfl rfl 8 (by decide) (htb _ tw_771) (fun _ h9 => h9) rfl dX12_tapeAt_93 ?_
              refine lv_iload_n hx hb dX12_tapeAt_96 rfl (lv_at hl 1 rfl) ?_
              refine va_iald hx hb hK hP 1 0 rfl rfl (show vp_in (z_3 / 4) 8 from vp_in_iff.mpr (show 0 ≤ (z_3 / 4).toInt ∧ (z_3 / 4).toInt < ((8 : Nat) : Int) from by omega)) dX12_tapeAt_97 ?_
              refine lv_bipush (v := 10) hx hb dX12_tapeAt_98 (by decide) ?_
              refine lv_idiv hx hb dX12_tapeAt_100 (by decide) ?_
              refine lv_goto (tgt := 143) hx hb dX12_tapeAt_101 (by decide) ?_
              refine lv_istore (lv' := [(5, .int ((mkeys_a (z_3 / 4).toNatClampNeg) / 10)), (4, .int (z_3 - z_3 / 4 * 4)), (3, .int (z_3 / 4)), (2, .int 4), (0, .ref mo), (1, .int a)]) hx hb dX12_tapeAt_143 hl (by decide) rfl (fun ls hl => ?_)
              refine lv_bipush (v := 48) hx hb dX12_tapeAt_145 (by decide) ?_
              refine lv_iload hx hb dX12_tapeAt_147 (lv_at hl 0 rfl) ?_
              refine lv_iadd hx hb dX12_tapeAt_149 ?_
              refine W.widen (k := 0) (n := 0) (by decide) (by decide) ?_
              exact hret (48 + ((mkeys_a (z_3 / 4).toNatClampNeg) / 10)) () _ _ _ 150 (wk_sub9 (is := [0, 1, 2, 3]) hP rfl) (hD.sub [0, 1, 2, 3] rfl rfl) hS dX12_tapeAt_150 ⟨hF.symm, (wk_orI (show ((48 + ((mkeys_a (z_3 / 4).toNatClampNeg) / 10)).toInt : Int) = (-1) ∨ (a.toInt ≤ 41) from by omega))⟩
          · have k_11 : (z_3 - z_3 / 4 * 4).toInt = 3 := wk_eq c_11
            replace hF := hF.trans (if_pos c_11)
            refine lv_bipush (v := 44) hx hb dX12_tapeAt_84 (by decide) ?_
            refine W.widen (k := 0) (n := 0) (by decide) (by decide) ?_
            exact hret 44 () _ _ _ 86 (wk_sub9 (is := [0, 1, 2, 3]) hP rfl) (hD.sub [0, 1, 2, 3] rfl rfl) hS dX12_tapeAt_86 ⟨hF.symm, (wk_orI (show (44 : Int) = (-1) ∨ (a.toInt ≤ 41) from by omega))⟩
        · have k_10 : (z_3 / 4).toInt = z_8.toInt := wk_eq c_10
          replace hF := hF.trans (if_pos c_10)
          refine lv_iload hx hb dX12_tapeAt_66 (lv_at hl 0 rfl) ?_
          refine lv_iload_n hx hb dX12_tapeAt_68 rfl (lv_at hl 2 rfl) ?_
          refine lv_iconst (v := 1) hx hb dX12_tapeAt_69 (by decide) ?_
          refine lv_isub hx hb dX12_tapeAt_70 ?_
          refine wk_toi (show ((4 - 1) : Int32) = 3 by decide) ?_
          refine lv_icmp_ne (tgt := 76) hx hb dX12_tapeAt_71 (by decide) (fun c_15 => ?_) (fun c_15 => ?_)
          · have k_15 : ¬ (z_3 - z_3 / 4 * 4).toInt = 3 := wk_neq c_15
            replace hF := hF.trans (if_neg c_15)
            refine lv_iload hx hb dX12_tapeAt_76 (lv_at hl 0 rfl) ?_
            refine lv_iload_n hx hb dX12_tapeAt_78 rfl (lv_at hl 2 rfl) ?_
            refine lv_iconst (v := 1) hx hb dX12_tapeAt_79 (by decide) ?_
            refine lv_isub hx hb dX12_tapeAt_80 ?_
            refine wk_toi (show ((4 - 1) : Int32) = 3 by decide) ?_
            refine lv_icmp_ne (tgt := 87) hx hb dX12_tapeAt_81 (by decide) (fun c_16 => ?_) (fun c_16 => ?_)
            · have k_16 : ¬ (z_3 - z_3 / 4 * 4).toInt = 3 := wk_neq c_16
              replace hF := hF.trans (if_neg c_16)
              refine lv_iload hx hb dX12_tapeAt_87 (lv_at hl 0 rfl) ?_
              refine lv_if_ne (tgt := 104) hx hb dX12_tapeAt_89 (by decide) (fun c_17 => ?_) (fun c_17 => ?_)
              · have k_17 : ¬ (z_3 - z_3 / 4 * 4).toInt = 0 := wk_neq c_17
                replace hF := hF.trans (if_neg c_17)
                refine lv_iload hx hb dX12_tapeAt_104 (lv_at hl 0 rfl) ?_
                refine lv_iconst (v := 1) hx hb dX12_tapeAt_106 (by decide) ?_
                refine lv_icmp_ne (tgt := 122) hx hb dX12_tapeAt_107 (by decide) (fun c_18 => ?_) (fun c_18 => ?_)
                · have k_18 : ¬ (z_3 - z_3 / 4 * 4).toInt = 1 := wk_neq c_18
                  replace hF := hF.trans (if_neg c_18)
                  refine lv_iload hx hb dX12_tapeAt_122 (lv_at hl 0 rfl) ?_
                  refine lv_iconst (v := 2) hx hb dX12_tapeAt_124 (by decide) ?_
                  refine lv_icmp_ne (tgt := 137) hx hb dX12_tapeAt_125 (by decide) (fun c_19 => ?_) (fun c_19 => ?_)
                  · have k_19 : ¬ (z_3 - z_3 / 4 * 4).toInt = 2 := wk_neq c_19
                    replace hF := hF.trans (if_neg c_19)
                    exfalso; omega
                  · have k_19 : (z_3 - z_3 / 4 * 4).toInt = 2 := wk_eq c_19
                    replace hF := hF.trans (if_pos c_19)
                    refine lv_aload_n hx hb dX12_tapeAt_128 rfl (lv_at hl 3 rfl) ?_
                    refine va_get (D := D) (ci := 12) (v := .ref mvalues) (C := RX12) (T := TX12) (N := 44) hx hb htb inX12 hown hK hP 0 rfl rfl 9 (by decide) (htb _ tw_772) (fun _ h9 => h9) rfl dX12_tapeAt_129 ?_
                    refine lv_iload_n hx hb dX12_tapeAt_132 rfl (lv_at hl 1 rfl) ?_
                    refine va_iald hx hb hK hP 2 0 rfl rfl (show vp_in (z_3 / 4) 8 from vp_in_iff.mpr (show 0 ≤ (z_3 / 4).toInt ∧ (z_3 / 4).toInt < ((8 : Nat) : Int) from by omega)) dX12_tapeAt_133 ?_
                    refine lv_goto (tgt := 143) hx hb dX12_tapeAt_134 (by decide) ?_
                    refine lv_istore (lv' := [(5, .int (mvalues_a (z_3 / 4).toNatClampNeg)), (4, .int (z_3 - z_3 / 4 * 4)), (3, .int (z_3 / 4)), (2, .int 4), (0, .ref mo), (1, .int a)]) hx hb dX12_tapeAt_143 hl (by decide) rfl (fun ls hl => ?_)
                    refine lv_bipush (v := 48) hx hb dX12_tapeAt_145 (by decide) ?_
                    refine lv_iload hx hb dX12_tapeAt_147 (lv_at hl 0 rfl) ?_
                    refine lv_iadd hx hb dX12_tapeAt_149 ?_
                    refine W.widen (k := 0) (n := 0) (by decide) (by decide) ?_
                    exact hret (48 + (mvalues_a (z_3 / 4).toNatClampNeg)) () _ _ _ 150 (wk_sub9 (is := [0, 1, 2, 3]) hP rfl) (hD.sub [0, 1, 2, 3] rfl rfl) hS dX12_tapeAt_150 ⟨hF.symm, (wk_orI (show ((48 + (mvalues_a (z_3 / 4).toNatClampNeg)).toInt : Int) = (-1) ∨ (a.toInt ≤ 41) from by omega))⟩
                · have k_18 : (z_3 - z_3 / 4 * 4).toInt = 1 := wk_eq c_18
                  replace hF := hF.trans (if_pos c_18)
                  refine lv_aload_n hx hb dX12_tapeAt_110 rfl (lv_at hl 3 rfl) ?_
                  refine va_get (D := D) (ci := 12) (v := .ref mkeys) (C := RX12) (T := TX12) (N := 44) hx hb htb inX12 hown hK hP 0 rfl rfl 8 (by decide) (htb _ tw_771) (fun _ h9 => h9) rfl dX12_tapeAt_111 ?_
                  refine lv_iload_n hx hb dX12_tapeAt_114 rfl (lv_at hl 1 rfl) ?_
                  refine va_iald hx hb hK hP 1 0 rfl rfl (show vp_in (z_3 / 4) 8 from vp_in_iff.mpr (show 0 ≤ (z_3 / 4).toInt ∧ (z_3 / 4).toInt < ((8 : Nat) : Int) from by omega)) dX12_tapeAt_115 ?_
                  refine lv_bipush (v := 10) hx hb dX12_tapeAt_116 (by decide) ?_
                  refine lv_irem hx hb dX12_tapeAt_118 (by decide) ?_
                  refine lv_goto (tgt := 143) hx hb dX12_tapeAt_119 (by decide) ?_
                  refine lv_istore (lv' := [(5, .int ((mkeys_a (z_3 / 4).toNatClampNeg) - (mkeys_a (z_3 / 4).toNatClampNeg) / 10 * 10)), (4, .int (z_3 - z_3 / 4 * 4)), (3, .int (z_3 / 4)), (2, .int 4), (0, .ref mo), (1, .int a)]) hx hb dX12_tapeAt_143 hl (by decide) rfl (fun ls hl => ?_)
                  refine lv_bipush (v := 48) hx hb dX12_tapeAt_145 (by decide) ?_
                  refine lv_iload hx hb dX12_tapeAt_147 (lv_at hl 0 rfl) ?_
                  refine lv_iadd hx hb dX12_tapeAt_149 ?_
                  refine W.widen (k := 0) (n := 0) (by decide) (by decide) ?_
                  exact hret (48 + ((mkeys_a (z_3 / 4).toNatClampNeg) - (mkeys_a (z_3 / 4).toNatClampNeg) / 10 * 10)) () _ _ _ 150 (wk_sub9 (is := [0, 1, 2, 3]) hP rfl) (hD.sub [0, 1, 2, 3] rfl rfl) hS dX12_tapeAt_150 ⟨hF.symm, (wk_orI (show ((48 + ((mkeys_a (z_3 / 4).toNatClampNeg) - (mkeys_a (z_3 / 4).toNatClampNeg) / 10 * 10)).toInt : Int) = (-1) ∨ (a.toInt ≤ 41) from by omega))⟩
              · have k_17 : (z_3 - z_3 / 4 * 4).toInt = 0 := wk_eq c_17
                replace hF := hF.trans (if_pos c_17)
                refine lv_aload_n hx hb dX12_tapeAt_92 rfl (lv_at hl 3 rfl) ?_
                refine va_get (D := D) (ci := 12) (v := .ref mkeys) (C := RX12) (T := TX12) (N := 44) hx hb htb inX12 hown hK hP 0 rfl rfl 8 (by decide) (htb _ tw_771) (fun _ h9 => h9) rfl dX12_tapeAt_93 ?_
                refine lv_iload_n hx hb dX12_tapeAt_96 rfl (lv_at hl 1 rfl) ?_
                refine va_iald hx hb hK hP 1 0 rfl rfl (show vp_in (z_3 / 4) 8 from vp_in_iff.mpr (show 0 ≤ (z_3 / 4).toInt ∧ (z_3 / 4).toInt < ((8 : Nat) : Int) from by omega)) dX12_tapeAt_97 ?_
                refine lv_bipush (v := 10) hx hb dX12_tapeAt_98 (by decide) ?_
                refine lv_idiv hx hb dX12_tapeAt_100 (by decide) ?_
                refine lv_goto (tgt := 143) hx hb dX12_tapeAt_101 (by decide) ?_
                refine lv_istore (lv' := [(5, .int ((mkeys_a (z_3 / 4).toNatClampNeg) / 10)), (4, .int (z_3 - z_3 / 4 * 4)), (3, .int (z_3 / 4)), (2, .int 4), (0, .ref mo), (1, .int a)]) hx hb dX12_tapeAt_143 hl (by decide) rfl (fun ls hl => ?_)
                refine lv_bipush (v := 48) hx hb dX12_tapeAt_145 (by decide) ?_
                refine lv_iload hx hb dX12_tapeAt_147 (lv_at hl 0 rfl) ?_
                refine lv_iadd hx hb dX12_tapeAt_149 ?_
                refine W.widen (k := 0) (n := 0) (by decide) (by decide) ?_
                exact hret (48 + ((mkeys_a (z_3 / 4).toNatClampNeg) / 10)) () _ _ _ 150 (wk_sub9 (is := [0, 1, 2, 3]) hP rfl) (hD.sub [0, 1, 2, 3] rfl rfl) hS dX12_tapeAt_150 ⟨hF.symm, (wk_orI (show ((48 + ((mkeys_a (z_3 / 4).toNatClampNeg) / 10)).toInt : Int) = (-1) ∨ (a.toInt ≤ 41) from by omega))⟩
            · have k_16 : (z_3 - z_3 / 4 * 4).toInt = 3 := wk_eq c_16
              replace hF := hF.trans (if_pos c_16)
              exfalso; omega
          · have k_15 : (z_3 - z_3 / 4 * 4).toInt = 3 := wk_eq c_15
            replace hF := hF.trans (if_pos c_15)
            refine lv_iconst (v := (-1)) hx hb dX12_tapeAt_74 (by decide) ?_
            refine W.widen (k := 0) (n := 0) (by decide) (by decide) ?_
            exact hret (-1) () _ _ _ 75 (wk_sub9 (is := [0, 1, 2, 3]) hP rfl) (hD.sub [0, 1, 2, 3] rfl rfl) hS dX12_tapeAt_75 ⟨hF.symm, (wk_orI (show ((-1) : Int) = (-1) ∨ (a.toInt ≤ 41) from by omega))⟩
    · have k_2 : mo_law.toInt = 0 := wk_eq c_2
      replace hF := hF.trans (if_pos c_2)
      refine lv_iconst (v := 5) hx hb dX12_tapeAt_29 (by decide) ?_
      refine lv_goto (tgt := 34) hx hb dX12_tapeAt_30 (by decide) ?_
      refine lv_istore_n (lv' := [(2, .int 5), (0, .ref mo), (1, .int a)]) hx hb dX12_tapeAt_34 rfl hl (by decide) rfl (fun ls hl => ?_)
      refine lv_iload_n hx hb dX12_tapeAt_35 rfl (lv_at hl 2 rfl) ?_
      refine lv_iconst (v := 2) hx hb dX12_tapeAt_36 (by decide) ?_
      refine lv_isub hx hb dX12_tapeAt_37 ?_
      obtain ⟨z_20, ez_20⟩ : ∃ y : Int32, y = (a - 2) := ⟨_, rfl⟩
      refine wk_toi ez_20.symm ?_
      try rw [← ez_20] at hF
      have k_21 : z_20.toInt = a.toInt - 2 := by rw [ez_20]; exact wk_sub a.toInt 2 rfl rfl (by omega) (by omega)
      refine lv_iload_n hx hb dX12_tapeAt_38 rfl (lv_at hl 0 rfl) ?_
      refine lv_idiv hx hb dX12_tapeAt_39 (by decide) ?_
      have k_22 : (z_20 / 5).toInt = z_20.toInt / 5 := wk_div 5 rfl (by omega) (by decide)
      refine lv_istore_n (lv' := [(3, .int (z_20 / 5)), (2, .int 5), (0, .ref mo), (1, .int a)]) hx hb dX12_tapeAt_40 rfl hl (by decide) rfl (fun ls hl => ?_)
      refine lv_iload_n hx hb dX12_tapeAt_41 rfl (lv_at hl 3 rfl) ?_
      refine lv_iconst (v := 2) hx hb dX12_tapeAt_42 (by decide) ?_
      refine lv_isub hx hb dX12_tapeAt_43 ?_
      refine wk_toi ez_20.symm ?_
      refine lv_iload_n hx hb dX12_tapeAt_44 rfl (lv_at hl 1 rfl) ?_
      refine lv_irem hx hb dX12_tapeAt_45 (by decide) ?_
      have k_23 : (z_20 - z_20 / 5 * 5).toInt = z_20.toInt % 5 := wk_rem 5 rfl (by omega) (by decide)
      refine lv_istore (lv' := [(4, .int (z_20 - z_20 / 5 * 5)), (3, .int (z_20 / 5)), (2, .int 5), (0, .ref mo), (1, .int a)]) hx hb dX12_tapeAt_46 hl (by decide) rfl (fun ls hl => ?_)
      refine lv_iload_n hx hb dX12_tapeAt_48 rfl (lv_at hl 1 rfl) ?_
      refine lv_aload_n hx hb dX12_tapeAt_49 rfl (lv_at hl 3 rfl) ?_
      refine va_get (D := D) (ci := 12) (v := .int mo_many) (C := RX12) (T := TX12) (N := 44) hx hb htb inX12 hown hK hP 0 rfl rfl 3 (by decide) (htb _ tw_766) (fun _ h9 => h9) rfl dX12_tapeAt_50 ?_
      refine lv_icmp_ge (tgt := 74) hx hb dX12_tapeAt_53 (by decide) (fun c_24 => ?_) (fun c_24 => ?_)
      · have k_24 : mo_many.toInt ≤ (z_20 / 5).toInt := wk_le c_24
        replace hF := hF.trans (if_pos c_24)
        refine lv_iconst (v := (-1)) hx hb dX12_tapeAt_74 (by decide) ?_
        refine W.widen (k := 0) (n := 0) (by decide) (by decide) ?_
        exact hret (-1) () _ _ _ 75 (wk_sub9 (is := [0, 1, 2, 3]) hP rfl) (hD.sub [0, 1, 2, 3] rfl rfl) hS dX12_tapeAt_75 ⟨hF.symm, (wk_orI (show ((-1) : Int) = (-1) ∨ (a.toInt ≤ 41) from by omega))⟩
      · have k_24 : ¬ mo_many.toInt ≤ (z_20 / 5).toInt := wk_nle c_24
        replace hF := hF.trans (if_neg c_24)
        refine lv_iload_n hx hb dX12_tapeAt_56 rfl (lv_at hl 1 rfl) ?_
        refine lv_aload_n hx hb dX12_tapeAt_57 rfl (lv_at hl 3 rfl) ?_
        refine va_get (D := D) (ci := 12) (v := .int mo_many) (C := RX12) (T := TX12) (N := 44) hx hb htb inX12 hown hK hP 0 rfl rfl 3 (by decide) (htb _ tw_766) (fun _ h9 => h9) rfl dX12_tapeAt_58 ?_
        refine lv_iconst (v := 1) hx hb dX12_tapeAt_61 (by decide) ?_
        refine lv_isub hx hb dX12_tapeAt_62 ?_
        obtain ⟨z_25, ez_25⟩ : ∃ y : Int32, y = (mo_many - 1) := ⟨_, rfl⟩
        refine wk_toi ez_25.symm ?_
        try rw [← ez_25] at hF
        have k_26 : z_25.toInt = mo_many.toInt - 1 := by rw [ez_25]; exact wk_sub mo_many.toInt 1 rfl rfl (by omega) (by omega)
        refine lv_icmp_ne (tgt := 76) hx hb dX12_tapeAt_63 (by decide) (fun c_27 => ?_) (fun c_27 => ?_)
        · have k_27 : ¬ (z_20 / 5).toInt = z_25.toInt := wk_neq c_27
          replace hF := hF.trans (if_neg c_27)
          refine lv_iload hx hb dX12_tapeAt_76 (lv_at hl 0 rfl) ?_
          refine lv_iload_n hx hb dX12_tapeAt_78 rfl (lv_at hl 2 rfl) ?_
          refine lv_iconst (v := 1) hx hb dX12_tapeAt_79 (by decide) ?_
          refine lv_isub hx hb dX12_tapeAt_80 ?_
          refine wk_toi (show ((5 - 1) : Int32) = 4 by decide) ?_
          refine lv_icmp_ne (tgt := 87) hx hb dX12_tapeAt_81 (by decide) (fun c_28 => ?_) (fun c_28 => ?_)
          · have k_28 : ¬ (z_20 - z_20 / 5 * 5).toInt = 4 := wk_neq c_28
            replace hF := hF.trans (if_neg c_28)
            refine lv_iload hx hb dX12_tapeAt_87 (lv_at hl 0 rfl) ?_
            refine lv_if_ne (tgt := 104) hx hb dX12_tapeAt_89 (by decide) (fun c_29 => ?_) (fun c_29 => ?_)
            · have k_29 : ¬ (z_20 - z_20 / 5 * 5).toInt = 0 := wk_neq c_29
              replace hF := hF.trans (if_neg c_29)
              refine lv_iload hx hb dX12_tapeAt_104 (lv_at hl 0 rfl) ?_
              refine lv_iconst (v := 1) hx hb dX12_tapeAt_106 (by decide) ?_
              refine lv_icmp_ne (tgt := 122) hx hb dX12_tapeAt_107 (by decide) (fun c_30 => ?_) (fun c_30 => ?_)
              · have k_30 : ¬ (z_20 - z_20 / 5 * 5).toInt = 1 := wk_neq c_30
                replace hF := hF.trans (if_neg c_30)
                refine lv_iload hx hb dX12_tapeAt_122 (lv_at hl 0 rfl) ?_
                refine lv_iconst (v := 2) hx hb dX12_tapeAt_124 (by decide) ?_
                refine lv_icmp_ne (tgt := 137) hx hb dX12_tapeAt_125 (by decide) (fun c_31 => ?_) (fun c_31 => ?_)
                · have k_31 : ¬ (z_20 - z_20 / 5 * 5).toInt = 2 := wk_neq c_31
                  replace hF := hF.trans (if_neg c_31)
                  refine lv_aload_n hx hb dX12_tapeAt_137 rfl (lv_at hl 3 rfl) ?_
                  refine va_get (D := D) (ci := 12) (v := .ref mheights) (C := RX12) (T := TX12) (N := 44) hx hb htb inX12 hown hK hP 0 rfl rfl 10 (by decide) (htb _ tw_773) (fun _ h9 => h9) rfl dX12_tapeAt_138 ?_
                  refine lv_iload_n hx hb dX12_tapeAt_141 rfl (lv_at hl 1 rfl) ?_
                  refine va_iald hx hb hK hP 3 0 rfl rfl (show vp_in (z_20 / 5) 8 from vp_in_iff.mpr (show 0 ≤ (z_20 / 5).toInt ∧ (z_20 / 5).toInt < ((8 : Nat) : Int) from by omega)) dX12_tapeAt_142 ?_
                  refine lv_istore (lv' := [(5, .int (mheights_a (z_20 / 5).toNatClampNeg)), (4, .int (z_20 - z_20 / 5 * 5)), (3, .int (z_20 / 5)), (2, .int 5), (0, .ref mo), (1, .int a)]) hx hb dX12_tapeAt_143 hl (by decide) rfl (fun ls hl => ?_)
                  refine lv_bipush (v := 48) hx hb dX12_tapeAt_145 (by decide) ?_
                  refine lv_iload hx hb dX12_tapeAt_147 (lv_at hl 0 rfl) ?_
                  refine lv_iadd hx hb dX12_tapeAt_149 ?_
                  refine W.widen (k := 0) (n := 0) (by decide) (by decide) ?_
                  exact hret (48 + (mheights_a (z_20 / 5).toNatClampNeg)) () _ _ _ 150 (wk_sub9 (is := [0, 1, 2, 3]) hP rfl) (hD.sub [0, 1, 2, 3] rfl rfl) hS dX12_tapeAt_150 ⟨hF.symm, (wk_orI (show ((48 + (mheights_a (z_20 / 5).toNatClampNeg)).toInt : Int) = (-1) ∨ (a.toInt ≤ 41) from by omega))⟩
                · have k_31 : (z_20 - z_20 / 5 * 5).toInt = 2 := wk_eq c_31
                  replace hF := hF.trans (if_pos c_31)
                  refine lv_aload_n hx hb dX12_tapeAt_128 rfl (lv_at hl 3 rfl) ?_
                  refine va_get (D := D) (ci := 12) (v := .ref mvalues) (C := RX12) (T := TX12) (N := 44) hx hb htb inX12 hown hK hP 0 rfl rfl 9 (by decide) (htb _ tw_772) (fun _ h9 => h9) rfl dX12_tapeAt_129 ?_
                  refine lv_iload_n hx hb dX12_tapeAt_132 rfl (lv_at hl 1 rfl) ?_
                  refine va_iald hx hb hK hP 2 0 rfl rfl (show vp_in (z_20 / 5) 8 from vp_in_iff.mpr (show 0 ≤ (z_20 / 5).toInt ∧ (z_20 / 5).toInt < ((8 : Nat) : Int) from by omega)) dX12_tapeAt_133 ?_
                  refine lv_goto (tgt := 143) hx hb dX12_tapeAt_134 (by decide) ?_
                  refine lv_istore (lv' := [(5, .int (mvalues_a (z_20 / 5).toNatClampNeg)), (4, .int (z_20 - z_20 / 5 * 5)), (3, .int (z_20 / 5)), (2, .int 5), (0, .ref mo), (1, .int a)]) hx hb dX12_tapeAt_143 hl (by decide) rfl (fun ls hl => ?_)
                  refine lv_bipush (v := 48) hx hb dX12_tapeAt_145 (by decide) ?_
                  refine lv_iload hx hb dX12_tapeAt_147 (lv_at hl 0 rfl) ?_
                  refine lv_iadd hx hb dX12_tapeAt_149 ?_
                  refine W.widen (k := 0) (n := 0) (by decide) (by decide) ?_
                  exact hret (48 + (mvalues_a (z_20 / 5).toNatClampNeg)) () _ _ _ 150 (wk_sub9 (is := [0, 1, 2, 3]) hP rfl) (hD.sub [0, 1, 2, 3] rfl rfl) hS dX12_tapeAt_150 ⟨hF.symm, (wk_orI (show ((48 + (mvalues_a (z_20 / 5).toNatClampNeg)).toInt : Int) = (-1) ∨ (a.toInt ≤ 41) from by omega))⟩
              · have k_30 : (z_20 - z_20 / 5 * 5).toInt = 1 := wk_eq c_30
                replace hF := hF.trans (if_pos c_30)
                refine lv_aload_n hx hb dX12_tapeAt_110 rfl (lv_at hl 3 rfl) ?_
                refine va_get (D := D) (ci := 12) (v := .ref mkeys) (C := RX12) (T := TX12) (N := 44) hx hb htb inX12 hown hK hP 0 rfl rfl 8 (by decide) (htb _ tw_771) (fun _ h9 => h9) rfl dX12_tapeAt_111 ?_
                refine lv_iload_n hx hb dX12_tapeAt_114 rfl (lv_at hl 1 rfl) ?_
                refine va_iald hx hb hK hP 1 0 rfl rfl (show vp_in (z_20 / 5) 8 from vp_in_iff.mpr (show 0 ≤ (z_20 / 5).toInt ∧ (z_20 / 5).toInt < ((8 : Nat) : Int) from by omega)) dX12_tapeAt_115 ?_
                refine lv_bipush (v := 10) hx hb dX12_tapeAt_116 (by decide) ?_
                refine lv_irem hx hb dX12_tapeAt_118 (by decide) ?_
                refine lv_goto (tgt := 143) hx hb dX12_tapeAt_119 (by decide) ?_
                refine lv_istore (lv' := [(5, .int ((mkeys_a (z_20 / 5).toNatClampNeg) - (mkeys_a (z_20 / 5).toNatClampNeg) / 10 * 10)), (4, .int (z_20 - z_20 / 5 * 5)), (3, .int (z_20 / 5)), (2, .int 5), (0, .ref mo), (1, .int a)]) hx hb dX12_tapeAt_143 hl (by decide) rfl (fun ls hl => ?_)
                refine lv_bipush (v := 48) hx hb dX12_tapeAt_145 (by decide) ?_
                refine lv_iload hx hb dX12_tapeAt_147 (lv_at hl 0 rfl) ?_
                refine lv_iadd hx hb dX12_tapeAt_149 ?_
                refine W.widen (k := 0) (n := 0) (by decide) (by decide) ?_
                exact hret (48 + ((mkeys_a (z_20 / 5).toNatClampNeg) - (mkeys_a (z_20 / 5).toNatClampNeg) / 10 * 10)) () _ _ _ 150 (wk_sub9 (is := [0, 1, 2, 3]) hP rfl) (hD.sub [0, 1, 2, 3] rfl rfl) hS dX12_tapeAt_150 ⟨hF.symm, (wk_orI (show ((48 + ((mkeys_a (z_20 / 5).toNatClampNeg) - (mkeys_a (z_20 / 5).toNatClampNeg) / 10 * 10)).toInt : Int) = (-1) ∨ (a.toInt ≤ 41) from by omega))⟩
            · have k_29 : (z_20 - z_20 / 5 * 5).toInt = 0 := wk_eq c_29
              replace hF := hF.trans (if_pos c_29)
              refine lv_aload_n hx hb dX12_tapeAt_92 rfl (lv_at hl 3 rfl) ?_
              refine va_get (D := D) (ci := 12) (v := .ref mkeys) (C := RX12) (T := TX12) (N := 44) hx hb htb inX12 hown hK hP 0 rfl rfl 8 (by decide) (htb _ tw_771) (fun _ h9 => h9) rfl dX12_tapeAt_93 ?_
              refine lv_iload_n hx hb dX12_tapeAt_96 rfl (lv_at hl 1 rfl) ?_
              refine va_iald hx hb hK hP 1 0 rfl rfl (show vp_in (z_20 / 5) 8 from vp_in_iff.mpr (show 0 ≤ (z_20 / 5).toInt ∧ (z_20 / 5).toInt < ((8 : Nat) : Int) from by omega)) dX12_tapeAt_97 ?_
              refine lv_bipush (v := 10) hx hb dX12_tapeAt_98 (by decide) ?_
              refine lv_idiv hx hb dX12_tapeAt_100 (by decide) ?_
              refine lv_goto (tgt := 143) hx hb dX12_tapeAt_101 (by decide) ?_
              refine lv_istore (lv' := [(5, .int ((mkeys_a (z_20 / 5).toNatClampNeg) / 10)), (4, .int (z_20 - z_20 / 5 * 5)), (3, .int (z_20 / 5)), (2, .int 5), (0, .ref mo), (1, .int a)]) hx hb dX12_tapeAt_143 hl (by decide) rfl (fun ls hl => ?_)
              refine lv_bipush (v := 48) hx hb dX12_tapeAt_145 (by decide) ?_
              refine lv_iload hx hb dX12_tapeAt_147 (lv_at hl 0 rfl) ?_
              refine lv_iadd hx hb dX12_tapeAt_149 ?_
              refine W.widen (k := 0) (n := 0) (by decide) (by decide) ?_
              exact hret (48 + ((mkeys_a (z_20 / 5).toNatClampNeg) / 10)) () _ _ _ 150 (wk_sub9 (is := [0, 1, 2, 3]) hP rfl) (hD.sub [0, 1, 2, 3] rfl rfl) hS dX12_tapeAt_150 ⟨hF.symm, (wk_orI (show ((48 + ((mkeys_a (z_20 / 5).toNatClampNeg) / 10)).toInt : Int) = (-1) ∨ (a.toInt ≤ 41) from by omega))⟩
          · have k_28 : (z_20 - z_20 / 5 * 5).toInt = 4 := wk_eq c_28
            replace hF := hF.trans (if_pos c_28)
            refine lv_bipush (v := 44) hx hb dX12_tapeAt_84 (by decide) ?_
            refine W.widen (k := 0) (n := 0) (by decide) (by decide) ?_
            exact hret 44 () _ _ _ 86 (wk_sub9 (is := [0, 1, 2, 3]) hP rfl) (hD.sub [0, 1, 2, 3] rfl rfl) hS dX12_tapeAt_86 ⟨hF.symm, (wk_orI (show (44 : Int) = (-1) ∨ (a.toInt ≤ 41) from by omega))⟩
        · have k_27 : (z_20 / 5).toInt = z_25.toInt := wk_eq c_27
          replace hF := hF.trans (if_pos c_27)
          refine lv_iload hx hb dX12_tapeAt_66 (lv_at hl 0 rfl) ?_
          refine lv_iload_n hx hb dX12_tapeAt_68 rfl (lv_at hl 2 rfl) ?_
          refine lv_iconst (v := 1) hx hb dX12_tapeAt_69 (by decide) ?_
          refine lv_isub hx hb dX12_tapeAt_70 ?_
          refine wk_toi (show ((5 - 1) : Int32) = 4 by decide) ?_
          refine lv_icmp_ne (tgt := 76) hx hb dX12_tapeAt_71 (by decide) (fun c_32 => ?_) (fun c_32 => ?_)
          · have k_32 : ¬ (z_20 - z_20 / 5 * 5).toInt = 4 := wk_neq c_32
            replace hF := hF.trans (if_neg c_32)
            refine lv_iload hx hb dX12_tapeAt_76 (lv_at hl 0 rfl) ?_
            refine lv_iload_n hx hb dX12_tapeAt_78 rfl (lv_at hl 2 rfl) ?_
            refine lv_iconst (v := 1) hx hb dX12_tapeAt_79 (by decide) ?_
            refine lv_isub hx hb dX12_tapeAt_80 ?_
            refine wk_toi (show ((5 - 1) : Int32) = 4 by decide) ?_
            refine lv_icmp_ne (tgt := 87) hx hb dX12_tapeAt_81 (by decide) (fun c_33 => ?_) (fun c_33 => ?_)
            · have k_33 : ¬ (z_20 - z_20 / 5 * 5).toInt = 4 := wk_neq c_33
              replace hF := hF.trans (if_neg c_33)
              refine lv_iload hx hb dX12_tapeAt_87 (lv_at hl 0 rfl) ?_
              refine lv_if_ne (tgt := 104) hx hb dX12_tapeAt_89 (by decide) (fun c_34 => ?_) (fun c_34 => ?_)
              · have k_34 : ¬ (z_20 - z_20 / 5 * 5).toInt = 0 := wk_neq c_34
                replace hF := hF.trans (if_neg c_34)
                refine lv_iload hx hb dX12_tapeAt_104 (lv_at hl 0 rfl) ?_
                refine lv_iconst (v := 1) hx hb dX12_tapeAt_106 (by decide) ?_
                refine lv_icmp_ne (tgt := 122) hx hb dX12_tapeAt_107 (by decide) (fun c_35 => ?_) (fun c_35 => ?_)
                · have k_35 : ¬ (z_20 - z_20 / 5 * 5).toInt = 1 := wk_neq c_35
                  replace hF := hF.trans (if_neg c_35)
                  refine lv_iload hx hb dX12_tapeAt_122 (lv_at hl 0 rfl) ?_
                  refine lv_iconst (v := 2) hx hb dX12_tapeAt_124 (by decide) ?_
                  refine lv_icmp_ne (tgt := 137) hx hb dX12_tapeAt_125 (by decide) (fun c_36 => ?_) (fun c_36 => ?_)
                  · have k_36 : ¬ (z_20 - z_20 / 5 * 5).toInt = 2 := wk_neq c_36
                    replace hF := hF.trans (if_neg c_36)
                    refine lv_aload_n hx hb dX12_tapeAt_137 rfl (lv_at hl 3 rfl) ?_
                    refine va_get (D := D) (ci := 12) (v := .ref mheights) (C := RX12) (T := TX12) (N := 44) hx hb htb inX12 hown hK hP 0 rfl rfl 10 (by decide) (htb _ tw_773) (fun _ h9 => h9) rfl dX12_tapeAt_138 ?_
                    refine lv_iload_n hx hb dX12_tapeAt_141 rfl (lv_at hl 1 rfl) ?_
                    refine va_iald hx hb hK hP 3 0 rfl rfl (show vp_in (z_20 / 5) 8 from vp_in_iff.mpr (show 0 ≤ (z_20 / 5).toInt ∧ (z_20 / 5).toInt < ((8 : Nat) : Int) from by omega)) dX12_tapeAt_142 ?_
                    refine lv_istore (lv' := [(5, .int (mheights_a (z_20 / 5).toNatClampNeg)), (4, .int (z_20 - z_20 / 5 * 5)), (3, .int (z_20 / 5)), (2, .int 5), (0, .ref mo), (1, .int a)]) hx hb dX12_tapeAt_143 hl (by decide) rfl (fun ls hl => ?_)
                    refine lv_bipush (v := 48) hx hb dX12_tapeAt_145 (by decide) ?_
                    refine lv_iload hx hb dX12_tapeAt_147 (lv_at hl 0 rfl) ?_
                    refine lv_iadd hx hb dX12_tapeAt_149 ?_
                    refine W.widen (k := 0) (n := 0) (by decide) (by decide) ?_
                    exact hret (48 + (mheights_a (z_20 / 5).toNatClampNeg)) () _ _ _ 150 (wk_sub9 (is := [0, 1, 2, 3]) hP rfl) (hD.sub [0, 1, 2, 3] rfl rfl) hS dX12_tapeAt_150 ⟨hF.symm, (wk_orI (show ((48 + (mheights_a (z_20 / 5).toNatClampNeg)).toInt : Int) = (-1) ∨ (a.toInt ≤ 41) from by omega))⟩
                  · have k_36 : (z_20 - z_20 / 5 * 5).toInt = 2 := wk_eq c_36
                    replace hF := hF.trans (if_pos c_36)
                    refine lv_aload_n hx hb dX12_tapeAt_128 rfl (lv_at hl 3 rfl) ?_
                    refine va_get (D := D) (ci := 12) (v := .ref mvalues) (C := RX12) (T := TX12) (N := 44) hx hb htb inX12 hown hK hP 0 rfl rfl 9 (by decide) (htb _ tw_772) (fun _ h9 => h9) rfl dX12_tapeAt_129 ?_
                    refine lv_iload_n hx hb dX12_tapeAt_132 rfl (lv_at hl 1 rfl) ?_
                    refine va_iald hx hb hK hP 2 0 rfl rfl (show vp_in (z_20 / 5) 8 from vp_in_iff.mpr (show 0 ≤ (z_20 / 5).toInt ∧ (z_20 / 5).toInt < ((8 : Nat) : Int) from by omega)) dX12_tapeAt_133 ?_
                    refine lv_goto (tgt := 143) hx hb dX12_tapeAt_134 (by decide) ?_
                    refine lv_istore (lv' := [(5, .int (mvalues_a (z_20 / 5).toNatClampNeg)), (4, .int (z_20 - z_20 / 5 * 5)), (3, .int (z_20 / 5)), (2, .int 5), (0, .ref mo), (1, .int a)]) hx hb dX12_tapeAt_143 hl (by decide) rfl (fun ls hl => ?_)
                    refine lv_bipush (v := 48) hx hb dX12_tapeAt_145 (by decide) ?_
                    refine lv_iload hx hb dX12_tapeAt_147 (lv_at hl 0 rfl) ?_
                    refine lv_iadd hx hb dX12_tapeAt_149 ?_
                    refine W.widen (k := 0) (n := 0) (by decide) (by decide) ?_
                    exact hret (48 + (mvalues_a (z_20 / 5).toNatClampNeg)) () _ _ _ 150 (wk_sub9 (is := [0, 1, 2, 3]) hP rfl) (hD.sub [0, 1, 2, 3] rfl rfl) hS dX12_tapeAt_150 ⟨hF.symm, (wk_orI (show ((48 + (mvalues_a (z_20 / 5).toNatClampNeg)).toInt : Int) = (-1) ∨ (a.toInt ≤ 41) from by omega))⟩
                · have k_35 : (z_20 - z_20 / 5 * 5).toInt = 1 := wk_eq c_35
                  replace hF := hF.trans (if_pos c_35)
                  refine lv_aload_n hx hb dX12_tapeAt_110 rfl (lv_at hl 3 rfl) ?_
                  refine va_get (D := D) (ci := 12) (v := .ref mkeys) (C := RX12) (T := TX12) (N := 44) hx hb htb inX12 hown hK hP 0 rfl rfl 8 (by decide) (htb _ tw_771) (fun _ h9 => h9) rfl dX12_tapeAt_111 ?_
                  refine lv_iload_n hx hb dX12_tapeAt_114 rfl (lv_at hl 1 rfl) ?_
                  refine va_iald hx hb hK hP 1 0 rfl rfl (show vp_in (z_20 / 5) 8 from vp_in_iff.mpr (show 0 ≤ (z_20 / 5).toInt ∧ (z_20 / 5).toInt < ((8 : Nat) : Int) from by omega)) dX12_tapeAt_115 ?_
                  refine lv_bipush (v := 10) hx hb dX12_tapeAt_116 (by decide) ?_
                  refine lv_irem hx hb dX12_tapeAt_118 (by decide) ?_
                  refine lv_goto (tgt := 143) hx hb dX12_tapeAt_119 (by decide) ?_
                  refine lv_istore (lv' := [(5, .int ((mkeys_a (z_20 / 5).toNatClampNeg) - (mkeys_a (z_20 / 5).toNatClampNeg) / 10 * 10)), (4, .int (z_20 - z_20 / 5 * 5)), (3, .int (z_20 / 5)), (2, .int 5), (0, .ref mo), (1, .int a)]) hx hb dX12_tapeAt_143 hl (by decide) rfl (fun ls hl => ?_)
                  refine lv_bipush (v := 48) hx hb dX12_tapeAt_145 (by decide) ?_
                  refine lv_iload hx hb dX12_tapeAt_147 (lv_at hl 0 rfl) ?_
                  refine lv_iadd hx hb dX12_tapeAt_149 ?_
                  refine W.widen (k := 0) (n := 0) (by decide) (by decide) ?_
                  exact hret (48 + ((mkeys_a (z_20 / 5).toNatClampNeg) - (mkeys_a (z_20 / 5).toNatClampNeg) / 10 * 10)) () _ _ _ 150 (wk_sub9 (is := [0, 1, 2, 3]) hP rfl) (hD.sub [0, 1, 2, 3] rfl rfl) hS dX12_tapeAt_150 ⟨hF.symm, (wk_orI (show ((48 + ((mkeys_a (z_20 / 5).toNatClampNeg) - (mkeys_a (z_20 / 5).toNatClampNeg) / 10 * 10)).toInt : Int) = (-1) ∨ (a.toInt ≤ 41) from by omega))⟩
              · have k_34 : (z_20 - z_20 / 5 * 5).toInt = 0 := wk_eq c_34
                replace hF := hF.trans (if_pos c_34)
                refine lv_aload_n hx hb dX12_tapeAt_92 rfl (lv_at hl 3 rfl) ?_
                refine va_get (D := D) (ci := 12) (v := .ref mkeys) (C := RX12) (T := TX12) (N := 44) hx hb htb inX12 hown hK hP 0 rfl rfl 8 (by decide) (htb _ tw_771) (fun _ h9 => h9) rfl dX12_tapeAt_93 ?_
                refine lv_iload_n hx hb dX12_tapeAt_96 rfl (lv_at hl 1 rfl) ?_
                refine va_iald hx hb hK hP 1 0 rfl rfl (show vp_in (z_20 / 5) 8 from vp_in_iff.mpr (show 0 ≤ (z_20 / 5).toInt ∧ (z_20 / 5).toInt < ((8 : Nat) : Int) from by omega)) dX12_tapeAt_97 ?_
                refine lv_bipush (v := 10) hx hb dX12_tapeAt_98 (by decide) ?_
                refine lv_idiv hx hb dX12_tapeAt_100 (by decide) ?_
                refine lv_goto (tgt := 143) hx hb dX12_tapeAt_101 (by decide) ?_
                refine lv_istore (lv' := [(5, .int ((mkeys_a (z_20 / 5).toNatClampNeg) / 10)), (4, .int (z_20 - z_20 / 5 * 5)), (3, .int (z_20 / 5)), (2, .int 5), (0, .ref mo), (1, .int a)]) hx hb dX12_tapeAt_143 hl (by decide) rfl (fun ls hl => ?_)
                refine lv_bipush (v := 48) hx hb dX12_tapeAt_145 (by decide) ?_
                refine lv_iload hx hb dX12_tapeAt_147 (lv_at hl 0 rfl) ?_
                refine lv_iadd hx hb dX12_tapeAt_149 ?_
                refine W.widen (k := 0) (n := 0) (by decide) (by decide) ?_
                exact hret (48 + ((mkeys_a (z_20 / 5).toNatClampNeg) / 10)) () _ _ _ 150 (wk_sub9 (is := [0, 1, 2, 3]) hP rfl) (hD.sub [0, 1, 2, 3] rfl rfl) hS dX12_tapeAt_150 ⟨hF.symm, (wk_orI (show ((48 + ((mkeys_a (z_20 / 5).toNatClampNeg) / 10)).toInt : Int) = (-1) ∨ (a.toInt ≤ 41) from by omega))⟩
            · have k_33 : (z_20 - z_20 / 5 * 5).toInt = 4 := wk_eq c_33
              replace hF := hF.trans (if_pos c_33)
              exfalso; omega
          · have k_32 : (z_20 - z_20 / 5 * 5).toInt = 4 := wk_eq c_32
            replace hF := hF.trans (if_pos c_32)
            refine lv_iconst (v := (-1)) hx hb dX12_tapeAt_74 (by decide) ?_
            refine W.widen (k := 0) (n := 0) (by decide) (by decide) ?_
            exact hret (-1) () _ _ _ 75 (wk_sub9 (is := [0, 1, 2, 3]) hP rfl) (hD.sub [0, 1, 2, 3] rfl rfl) hS dX12_tapeAt_75 ⟨hF.symm, (wk_orI (show ((-1) : Int) = (-1) ∨ (a.toInt ≤ 41) from by omega))⟩
  · have k_1 : ¬ 2 ≤ a.toInt := wk_nle c_1
    replace hF := hF.trans (if_neg c_1)
    refine lv_iload_n hx hb dX12_tapeAt_5 rfl (lv_at hl 1 rfl) ?_
    refine lv_if_ne (tgt := 19) hx hb dX12_tapeAt_6 (by decide) (fun c_37 => ?_) (fun c_37 => ?_)
    · have k_37 : ¬ a.toInt = 0 := wk_neq c_37
      replace hF := hF.trans (if_neg c_37)
      refine lv_bipush (v := 59) hx hb dX12_tapeAt_19 (by decide) ?_
      refine W.widen (k := 0) (n := 0) (by decide) (by decide) ?_
      exact hret 59 () _ _ _ 21 (wk_sub9 (is := [0, 1, 2, 3]) hP rfl) (hD.sub [0, 1, 2, 3] rfl rfl) hS dX12_tapeAt_21 ⟨hF.symm, (wk_orI (show (59 : Int) = (-1) ∨ (a.toInt ≤ 41) from by omega))⟩
    · have k_37 : a.toInt = 0 := wk_eq c_37
      replace hF := hF.trans (if_pos c_37)
      refine lv_aload_n hx hb dX12_tapeAt_9 rfl (lv_at hl 0 rfl) ?_
      refine va_get (D := D) (ci := 12) (v := .int mo_law) (C := RX12) (T := TX12) (N := 44) hx hb htb inX12 hown hK hP 0 rfl rfl 2 (by decide) (htb _ tw_765) (fun _ h9 => h9) rfl dX12_tapeAt_10 ?_
      refine wk_iS (As := [.int mo_law]) (rest := []) (wc := []) (wr := [(mo, .inr (12, [.ref mpage, .int mo_pageMany, .int mo_law, .int mo_many, .int mo_asked, .int mo_looksAll, .int mo_changes, .int mo_rowsRead, .ref mkeys, .ref mvalues, .ref mheights, .ref mheats, .int mo_secondMany, .ref msecondKeys, .ref msecondValues, .ref msecondHeights, .ref msecondHeats, .int mo_foundAt, .int mo_foundLooks, .int mo_foundLane, .int mo_bestsDone, .ref msaved, .ref mbestHeights, .int mo_seenMany, .ref msights, .ref mby, .int mo_seedNow, .int mo_keptRow, .int mo_keptMany, .int mo_keptSecond, .int mo_keptAsked, .int mo_keptLooks, .int mo_keptChanges, .int mo_keptSeen, .ref mkeptKeys, .ref mkeptValues, .ref mkeptHeights, .ref mkeptHeats, .ref mkeptKeys2, .ref mkeptValues2, .ref mkeptHeights2, .ref mkeptHeats2, .ref mkeptSights, .long mo_hash])), (mkeys, .inl (cy, 8, .inl mkeys_a)), (mvalues, .inl (cy, 8, .inl mvalues_a)), (mheights, .inl (cy, 8, .inl mheights_a))]) (n := 1) ⟨hx, hb, hml, hown, htb⟩ (c_X12_signOf l D cy   mo_law ) tw_1087 tw_1085 tw_1086 tw_71 rfl rfl (by decide +kernel) ⟨Nat.le_of_ble_eq_true rfl, Nat.le_of_ble_eq_true rfl⟩ hK hP hD hS hA [] [0, 1, 2, 3] rfl rfl rfl rfl (by decide) rfl hl.1 rfl (Nat.le_of_ble_eq_true rfl) dX12_tapeAt_13 ⟨Nat.le_of_ble_eq_true rfl, Nat.le_of_ble_eq_true rfl⟩ (fun r_38 u_39 H locs hw_40 hP hD hS => ?_)
      refine W.widen (k := 0) (n := 0) (by decide) (by decide) ?_
      have hw_40 : r_38 = (fn_X12_signOf mo_law) := hw_40
      subst hw_40
      have hP : va_P D classes [(mo, .inr (12, [.ref mpage, .int mo_pageMany, .int mo_law, .int mo_many, .int mo_asked, .int mo_looksAll, .int mo_changes, .int mo_rowsRead, .ref mkeys, .ref mvalues, .ref mheights, .ref mheats, .int mo_secondMany, .ref msecondKeys, .ref msecondValues, .ref msecondHeights, .ref msecondHeats, .int mo_foundAt, .int mo_foundLooks, .int mo_foundLane, .int mo_bestsDone, .ref msaved, .ref mbestHeights, .int mo_seenMany, .ref msights, .ref mby, .int mo_seedNow, .int mo_keptRow, .int mo_keptMany, .int mo_keptSecond, .int mo_keptAsked, .int mo_keptLooks, .int mo_keptChanges, .int mo_keptSeen, .ref mkeptKeys, .ref mkeptValues, .ref mkeptHeights, .ref mkeptHeats, .ref mkeptKeys2, .ref mkeptValues2, .ref mkeptHeights2, .ref mkeptHeats2, .ref mkeptSights, .long mo_hash])), (mkeys, .inl (cy, 8, .inl mkeys_a)), (mvalues, .inl (cy, 8, .inl mvalues_a)), (mheights, .inl (cy, 8, .inl mheights_a))] H := hP
      have hD : va_D A [(mo, .inr (12, [.ref mpage, .int mo_pageMany, .int mo_law, .int mo_many, .int mo_asked, .int mo_looksAll, .int mo_changes, .int mo_rowsRead, .ref mkeys, .ref mvalues, .ref mheights, .ref mheats, .int mo_secondMany, .ref msecondKeys, .ref msecondValues, .ref msecondHeights, .ref msecondHeats, .int mo_foundAt, .int mo_foundLooks, .int mo_foundLane, .int mo_bestsDone, .ref msaved, .ref mbestHeights, .int mo_seenMany, .ref msights, .ref mby, .int mo_seedNow, .int mo_keptRow, .int mo_keptMany, .int mo_keptSecond, .int mo_keptAsked, .int mo_keptLooks, .int mo_keptChanges, .int mo_keptSeen, .ref mkeptKeys, .ref mkeptValues, .ref mkeptHeights, .ref mkeptHeats, .ref mkeptKeys2, .ref mkeptValues2, .ref mkeptHeights2, .ref mkeptHeats2, .ref mkeptSights, .long mo_hash])), (mkeys, .inl (cy, 8, .inl mkeys_a)), (mvalues, .inl (cy, 8, .inl mvalues_a)), (mheights, .inl (cy, 8, .inl mheights_a))] := hD
      refine lv_goto (tgt := 21) hx hb dX12_tapeAt_16 (by decide) ?_
      refine W.widen (k := 0) (n := 0) (by decide) (by decide) ?_
      exact hret (fn_X12_signOf mo_law) () _ _ _ 21 (wk_sub9 (is := [0, 1, 2, 3]) hP rfl) (hD.sub [0, 1, 2, 3] rfl rfl) hS dX12_tapeAt_21 ⟨hF.symm, (wk_orI (show ((fn_X12_signOf mo_law).toInt : Int) = (-1) ∨ (a.toInt ≤ 41) from by omega))⟩
def fn_X12_tape (mo_law : Int32) (mo_many : Int32) (mkeys_a : Nat → Int32) (mvalues_a : Nat → Int32) (mheights_a : Nat → Int32) (a : Int32) : Int32 := (if (wk_in a.toInt64 0 50) = 0 then (-102) else (if (fn_X12_lacks mo_many) = 0 then (fn_X12_tapeAt mo_law mo_many mkeys_a mvalues_a mheights_a a) else (-103)))
theorem dX12_tape_0 : decode cX12_tape 0 = .ok (.iload_n 1, 1) := by decide +kernel
theorem dX12_tape_1 : decode cX12_tape 1 = .ok (.i2l, 1) := by decide +kernel
theorem dX12_tape_2 : decode cX12_tape 2 = .ok (.lconst 0, 1) := by decide +kernel
theorem dX12_tape_3 : decode cX12_tape 3 = .ok (.ldc2_w 240, 3) := by decide +kernel
theorem dX12_tape_6 : decode cX12_tape 6 = .ok (.invokestatic 82, 3) := by decide +kernel
theorem dX12_tape_9 : decode cX12_tape 9 = .ok (.ifCond .ne 6, 3) := by decide +kernel
theorem dX12_tape_12 : decode cX12_tape 12 = .ok (.bipush (-102), 2) := by decide +kernel
theorem dX12_tape_14 : decode cX12_tape 14 = .ok (.ireturn, 1) := by decide +kernel
theorem dX12_tape_15 : decode cX12_tape 15 = .ok (.aload_n 0, 1) := by decide +kernel
theorem dX12_tape_16 : decode cX12_tape 16 = .ok (.invokevirtual 185, 3) := by decide +kernel
theorem dX12_tape_19 : decode cX12_tape 19 = .ok (.ifCond .eq 8, 3) := by decide +kernel
theorem dX12_tape_22 : decode cX12_tape 22 = .ok (.bipush (-103), 2) := by decide +kernel
theorem dX12_tape_24 : decode cX12_tape 24 = .ok (.goto 8, 3) := by decide +kernel
theorem dX12_tape_27 : decode cX12_tape 27 = .ok (.aload_n 0, 1) := by decide +kernel
theorem dX12_tape_28 : decode cX12_tape 28 = .ok (.iload_n 1, 1) := by decide +kernel
theorem dX12_tape_29 : decode cX12_tape 29 = .ok (.invokevirtual 242, 3) := by decide +kernel
theorem dX12_tape_32 : decode cX12_tape 32 = .ok (.ireturn, 1) := by decide +kernel
set_option maxHeartbeats 4000000 in
set_option maxRecDepth 100000 in
theorem c_X12_tape (l : Launch) (D : va_G) (cy : ClassId) (mo mpage mkeys mvalues mheights mheats msecondKeys msecondValues msecondHeights msecondHeats msaved mbestHeights msights mby mkeptKeys mkeptValues mkeptHeights mkeptHeats mkeptKeys2 mkeptValues2 mkeptHeights2 mkeptHeats2 mkeptSights : Nat) (mo_pageMany : Int32) (mo_law : Int32) (mo_many : Int32) (mo_asked : Int32) (mo_looksAll : Int32) (mo_changes : Int32) (mo_rowsRead : Int32) (mo_secondMany : Int32) (mo_foundAt : Int32) (mo_foundLooks : Int32) (mo_foundLane : Int32) (mo_bestsDone : Int32) (mo_seenMany : Int32) (mo_seedNow : Int32) (mo_keptRow : Int32) (mo_keptMany : Int32) (mo_keptSecond : Int32) (mo_keptAsked : Int32) (mo_keptLooks : Int32) (mo_keptChanges : Int32) (mo_keptSeen : Int32) (mo_hash : Int64) (mkeys_a : Nat → Int32) (mvalues_a : Nat → Int32) (mheights_a : Nat → Int32) (a : Int32) (g_0 : 0 ≤ mo_pageMany.toInt ∧ mo_pageMany.toInt ≤ 44) (g_1 : 0 ≤ mo_many.toInt ∧ mo_many.toInt ≤ 8) (g_2 : 0 ≤ mo_secondMany.toInt ∧ mo_secondMany.toInt ≤ 8) (g_3 : (-1) ≤ mo_foundAt.toInt ∧ mo_foundAt.toInt ≤ 7) (g_4 : 0 ≤ mo_seenMany.toInt ∧ mo_seenMany.toInt ≤ 6) (g_5 : 0 ≤ mo_keptMany.toInt ∧ mo_keptMany.toInt ≤ 8) (g_6 : 0 ≤ mo_keptSecond.toInt ∧ mo_keptSecond.toInt ≤ 8) (g_7 : 0 ≤ mo_keptSeen.toInt ∧ mo_keptSeen.toInt ≤ 6) : wk_Ci l yX12_tape cX12_tape 2 (some .int) { frames := 2, cells := 0, slots := 0, locals := 45 } D cy [.ref mo, .int a] [(mo, .inr (12, [.ref mpage, .int mo_pageMany, .int mo_law, .int mo_many, .int mo_asked, .int mo_looksAll, .int mo_changes, .int mo_rowsRead, .ref mkeys, .ref mvalues, .ref mheights, .ref mheats, .int mo_secondMany, .ref msecondKeys, .ref msecondValues, .ref msecondHeights, .ref msecondHeats, .int mo_foundAt, .int mo_foundLooks, .int mo_foundLane, .int mo_bestsDone, .ref msaved, .ref mbestHeights, .int mo_seenMany, .ref msights, .ref mby, .int mo_seedNow, .int mo_keptRow, .int mo_keptMany, .int mo_keptSecond, .int mo_keptAsked, .int mo_keptLooks, .int mo_keptChanges, .int mo_keptSeen, .ref mkeptKeys, .ref mkeptValues, .ref mkeptHeights, .ref mkeptHeats, .ref mkeptKeys2, .ref mkeptValues2, .ref mkeptHeights2, .ref mkeptHeats2, .ref mkeptSights, .long mo_hash])), (mkeys, .inl (cy, 8, .inl mkeys_a)), (mvalues, .inl (cy, 8, .inl mvalues_a)), (mheights, .inl (cy, 8, .inl mheights_a))] 0 0 (fun (r : Int32) (u : Unit) => r = (fn_X12_tape mo_law mo_many mkeys_a mvalues_a mheights_a a)) (fun u => [(mo, .inr (12, [.ref mpage, .int mo_pageMany, .int mo_law, .int mo_many, .int mo_asked, .int mo_looksAll, .int mo_changes, .int mo_rowsRead, .ref mkeys, .ref mvalues, .ref mheights, .ref mheats, .int mo_secondMany, .ref msecondKeys, .ref msecondValues, .ref msecondHeights, .ref msecondHeats, .int mo_foundAt, .int mo_foundLooks, .int mo_foundLane, .int mo_bestsDone, .ref msaved, .ref mbestHeights, .int mo_seenMany, .ref msights, .ref mby, .int mo_seedNow, .int mo_keptRow, .int mo_keptMany, .int mo_keptSecond, .int mo_keptAsked, .int mo_keptLooks, .int mo_keptChanges, .int mo_keptSeen, .ref mkeptKeys, .ref mkeptValues, .ref mkeptHeights, .ref mkeptHeats, .ref mkeptKeys2, .ref mkeptValues2, .ref mkeptHeights2, .ref mkeptHeats2, .ref mkeptSights, .long mo_hash])), (mkeys, .inl (cy, 8, .inl mkeys_a)), (mvalues, .inl (cy, 8, .inl mvalues_a)), (mheights, .inl (cy, 8, .inl mheights_a))]) := by
  refine wk_mk2Ci (by decide) (Nat.le_of_ble_eq_true rfl) ?_
  intro p e s m args below meth c A ls Q B hA hK hP hD hS hl hret
  obtain ⟨hx, hb, hr, hlocks, hml, hown, htb, hin⟩ := B
  have hl : lv_has ls 2 [(0, .ref mo), (1, .int a)] := hl
  have hF : (fn_X12_tape mo_law mo_many mkeys_a mvalues_a mheights_a a) = (fn_X12_tape mo_law mo_many mkeys_a mvalues_a mheights_a a) := rfl
  conv at hF => rhs; unfold fn_X12_tape
  refine lv_iload_n hx hb dX12_tape_0 rfl (lv_at hl 1 rfl) ?_
  refine lv_i2l (v := a.toInt64) hx hb dX12_tape_1 rfl ?_
  refine lv_lconst (v := 0) hx hb dX12_tape_2 (by decide) ?_
  refine lv_ldc2 (v := 50) hx hb hown (htb _ tw_1080) dX12_tape_3 ?_
  refine wk_iS (As := [.long a.toInt64, .long 0, .long 50]) (rest := []) (wc := []) (wr := [(mo, .inr (12, [.ref mpage, .int mo_pageMany, .int mo_law, .int mo_many, .int mo_asked, .int mo_looksAll, .int mo_changes, .int mo_rowsRead, .ref mkeys, .ref mvalues, .ref mheights, .ref mheats, .int mo_secondMany, .ref msecondKeys, .ref msecondValues, .ref msecondHeights, .ref msecondHeats, .int mo_foundAt, .int mo_foundLooks, .int mo_foundLane, .int mo_bestsDone, .ref msaved, .ref mbestHeights, .int mo_seenMany, .ref msights, .ref mby, .int mo_seedNow, .int mo_keptRow, .int mo_keptMany, .int mo_keptSecond, .int mo_keptAsked, .int mo_keptLooks, .int mo_keptChanges, .int mo_keptSeen, .ref mkeptKeys, .ref mkeptValues, .ref mkeptHeights, .ref mkeptHeats, .ref mkeptKeys2, .ref mkeptValues2, .ref mkeptHeights2, .ref mkeptHeats2, .ref mkeptSights, .long mo_hash])), (mkeys, .inl (cy, 8, .inl mkeys_a)), (mvalues, .inl (cy, 8, .inl mvalues_a)), (mheights, .inl (cy, 8, .inl mheights_a))]) (n := 3) ⟨hx, hb, hml, hown, htb⟩ (c_X12_in l D cy   a.toInt64 0 50 ) tw_903 tw_901 tw_902 tw_71 rfl rfl (by decide +kernel) ⟨Nat.le_of_ble_eq_true rfl, Nat.le_of_ble_eq_true rfl⟩ hK hP hD hS hA [] [0, 1, 2, 3] rfl rfl rfl rfl (by decide) rfl hl.1 rfl (Nat.le_of_ble_eq_true rfl) dX12_tape_6 ⟨Nat.le_of_ble_eq_true rfl, Nat.le_of_ble_eq_true rfl⟩ (fun r_1 u_2 H locs hw_3 hP hD hS => ?_)
  refine W.widen (k := 0) (n := 0) (by decide) (by decide) ?_
  obtain ⟨hw_3, k_4⟩ := hw_3
  have hw_3 : r_1 = (wk_in a.toInt64 0 50) := hw_3
  subst hw_3
  have k_4 : ((wk_in a.toInt64 0 50) = 0 ∨ (wk_in a.toInt64 0 50) = 1) := k_4
  have k_5 : 0 ≤ (wk_in a.toInt64 0 50).toInt ∧ (wk_in a.toInt64 0 50).toInt ≤ 1 := wk_b01 (by assumption)
  have hP : va_P D classes [(mo, .inr (12, [.ref mpage, .int mo_pageMany, .int mo_law, .int mo_many, .int mo_asked, .int mo_looksAll, .int mo_changes, .int mo_rowsRead, .ref mkeys, .ref mvalues, .ref mheights, .ref mheats, .int mo_secondMany, .ref msecondKeys, .ref msecondValues, .ref msecondHeights, .ref msecondHeats, .int mo_foundAt, .int mo_foundLooks, .int mo_foundLane, .int mo_bestsDone, .ref msaved, .ref mbestHeights, .int mo_seenMany, .ref msights, .ref mby, .int mo_seedNow, .int mo_keptRow, .int mo_keptMany, .int mo_keptSecond, .int mo_keptAsked, .int mo_keptLooks, .int mo_keptChanges, .int mo_keptSeen, .ref mkeptKeys, .ref mkeptValues, .ref mkeptHeights, .ref mkeptHeats, .ref mkeptKeys2, .ref mkeptValues2, .ref mkeptHeights2, .ref mkeptHeats2, .ref mkeptSights, .long mo_hash])), (mkeys, .inl (cy, 8, .inl mkeys_a)), (mvalues, .inl (cy, 8, .inl mvalues_a)), (mheights, .inl (cy, 8, .inl mheights_a))] H := hP
  have hD : va_D A [(mo, .inr (12, [.ref mpage, .int mo_pageMany, .int mo_law, .int mo_many, .int mo_asked, .int mo_looksAll, .int mo_changes, .int mo_rowsRead, .ref mkeys, .ref mvalues, .ref mheights, .ref mheats, .int mo_secondMany, .ref msecondKeys, .ref msecondValues, .ref msecondHeights, .ref msecondHeats, .int mo_foundAt, .int mo_foundLooks, .int mo_foundLane, .int mo_bestsDone, .ref msaved, .ref mbestHeights, .int mo_seenMany, .ref msights, .ref mby, .int mo_seedNow, .int mo_keptRow, .int mo_keptMany, .int mo_keptSecond, .int mo_keptAsked, .int mo_keptLooks, .int mo_keptChanges, .int mo_keptSeen, .ref mkeptKeys, .ref mkeptValues, .ref mkeptHeights, .ref mkeptHeats, .ref mkeptKeys2, .ref mkeptValues2, .ref mkeptHeights2, .ref mkeptHeats2, .ref mkeptSights, .long mo_hash])), (mkeys, .inl (cy, 8, .inl mkeys_a)), (mvalues, .inl (cy, 8, .inl mvalues_a)), (mheights, .inl (cy, 8, .inl mheights_a))] := hD
  refine lv_if_ne (tgt := 15) hx hb dX12_tape_9 (by decide) (fun c_6 => ?_) (fun c_6 => ?_)
  · have k_6 : 0 ≤ a.toInt ∧ a.toInt ≤ 50 := by have h9 := wk_in1 c_6; simp only [wk_64] at h9; exact h9
    replace hF := hF.trans (if_neg c_6)
    refine lv_aload_n hx hb dX12_tape_15 rfl (lv_at hl 0 rfl) ?_
    refine wk_iV (As := []) (rest := []) (wc := [(mo, .inr (12, [.ref mpage, .int mo_pageMany, .int mo_law, .int mo_many, .int mo_asked, .int mo_looksAll, .int mo_changes, .int mo_rowsRead, .ref mkeys, .ref mvalues, .ref mheights, .ref mheats, .int mo_secondMany, .ref msecondKeys, .ref msecondValues, .ref msecondHeights, .ref msecondHeats, .int mo_foundAt, .int mo_foundLooks, .int mo_foundLane, .int mo_bestsDone, .ref msaved, .ref mbestHeights, .int mo_seenMany, .ref msights, .ref mby, .int mo_seedNow, .int mo_keptRow, .int mo_keptMany, .int mo_keptSecond, .int mo_keptAsked, .int mo_keptLooks, .int mo_keptChanges, .int mo_keptSeen, .ref mkeptKeys, .ref mkeptValues, .ref mkeptHeights, .ref mkeptHeats, .ref mkeptKeys2, .ref mkeptValues2, .ref mkeptHeights2, .ref mkeptHeats2, .ref mkeptSights, .long mo_hash]))]) (wr := [(mkeys, .inl (cy, 8, .inl mkeys_a)), (mvalues, .inl (cy, 8, .inl mvalues_a)), (mheights, .inl (cy, 8, .inl mheights_a))]) (n := 0) ⟨hx, hb, hml, hown, htb⟩ (c_X12_lacks l D cy mo mpage mkeys mvalues mheights mheats msecondKeys msecondValues msecondHeights msecondHeats msaved mbestHeights msights mby mkeptKeys mkeptValues mkeptHeights mkeptHeats mkeptKeys2 mkeptValues2 mkeptHeights2 mkeptHeats2 mkeptSights mo_pageMany mo_law mo_many mo_asked mo_looksAll mo_changes mo_rowsRead mo_secondMany mo_foundAt mo_foundLooks mo_foundLane mo_bestsDone mo_seenMany mo_seedNow mo_keptRow mo_keptMany mo_keptSecond mo_keptAsked mo_keptLooks mo_keptChanges mo_keptSeen mo_hash  (show 0 ≤ mo_pageMany.toInt ∧ mo_pageMany.toInt ≤ 44 from by omega) (show 0 ≤ mo_many.toInt ∧ mo_many.toInt ≤ 8 from by omega) (show 0 ≤ mo_secondMany.toInt ∧ mo_secondMany.toInt ≤ 8 from by omega) (show (-1) ≤ mo_foundAt.toInt ∧ mo_foundAt.toInt ≤ 7 from by omega) (show 0 ≤ mo_seenMany.toInt ∧ mo_seenMany.toInt ≤ 6 from by omega) (show 0 ≤ mo_keptMany.toInt ∧ mo_keptMany.toInt ≤ 8 from by omega) (show 0 ≤ mo_keptSecond.toInt ∧ mo_keptSecond.toInt ≤ 8 from by omega) (show 0 ≤ mo_keptSeen.toInt ∧ mo_keptSeen.toInt ≤ 6 from by omega)) tw_969 tw_966 tw_968 tw_29 tw_71 rfl rfl (by decide +kernel) ⟨Nat.le_of_ble_eq_true rfl, Nat.le_of_ble_eq_true rfl⟩ hK hP hD hS hA [0] [1, 2, 3] rfl rfl rfl rfl (by decide) 0 (ci := 12) rfl rfl rfl hl.1 rfl (Nat.le_of_ble_eq_true rfl) dX12_tape_16 ⟨Nat.le_of_ble_eq_true rfl, Nat.le_of_ble_eq_true rfl⟩ (fun r_7 u_8 H locs hw_9 hP hD hS => ?_)
    refine W.widen (k := 0) (n := 0) (by decide) (by decide) ?_
    obtain ⟨hw_9, k_10, k_11, k_12⟩ := hw_9
    have hw_9 : r_7 = (fn_X12_lacks mo_many) := hw_9
    subst hw_9
    have k_10 : ((fn_X12_lacks mo_many) = 0 ∨ (fn_X12_lacks mo_many) = 1) := k_10
    have k_11 : (wk_or ((fn_X12_lacks mo_many).toInt = 0) (mo_many.toInt = 0)) := k_11
    have k_12 : (wk_or ((fn_X12_lacks mo_many).toInt = 1) (1 ≤ mo_many.toInt)) := k_12
    have k_13 : 0 ≤ (fn_X12_lacks mo_many).toInt ∧ (fn_X12_lacks mo_many).toInt ≤ 1 := wk_b01 (by assumption)
    have hP : va_P D classes [(mkeys, .inl (cy, 8, .inl mkeys_a)), (mvalues, .inl (cy, 8, .inl mvalues_a)), (mheights, .inl (cy, 8, .inl mheights_a)), (mo, .inr (12, [.ref mpage, .int mo_pageMany, .int mo_law, .int mo_many, .int mo_asked, .int mo_looksAll, .int mo_changes, .int mo_rowsRead, .ref mkeys, .ref mvalues, .ref mheights, .ref mheats, .int mo_secondMany, .ref msecondKeys, .ref msecondValues, .ref msecondHeights, .ref msecondHeats, .int mo_foundAt, .int mo_foundLooks, .int mo_foundLane, .int mo_bestsDone, .ref msaved, .ref mbestHeights, .int mo_seenMany, .ref msights, .ref mby, .int mo_seedNow, .int mo_keptRow, .int mo_keptMany, .int mo_keptSecond, .int mo_keptAsked, .int mo_keptLooks, .int mo_keptChanges, .int mo_keptSeen, .ref mkeptKeys, .ref mkeptValues, .ref mkeptHeights, .ref mkeptHeats, .ref mkeptKeys2, .ref mkeptValues2, .ref mkeptHeights2, .ref mkeptHeats2, .ref mkeptSights, .long mo_hash]))] H := hP
    have hD : va_D A [(mkeys, .inl (cy, 8, .inl mkeys_a)), (mvalues, .inl (cy, 8, .inl mvalues_a)), (mheights, .inl (cy, 8, .inl mheights_a)), (mo, .inr (12, [.ref mpage, .int mo_pageMany, .int mo_law, .int mo_many, .int mo_asked, .int mo_looksAll, .int mo_changes, .int mo_rowsRead, .ref mkeys, .ref mvalues, .ref mheights, .ref mheats, .int mo_secondMany, .ref msecondKeys, .ref msecondValues, .ref msecondHeights, .ref msecondHeats, .int mo_foundAt, .int mo_foundLooks, .int mo_foundLane, .int mo_bestsDone, .ref msaved, .ref mbestHeights, .int mo_seenMany, .ref msights, .ref mby, .int mo_seedNow, .int mo_keptRow, .int mo_keptMany, .int mo_keptSecond, .int mo_keptAsked, .int mo_keptLooks, .int mo_keptChanges, .int mo_keptSeen, .ref mkeptKeys, .ref mkeptValues, .ref mkeptHeights, .ref mkeptHeats, .ref mkeptKeys2, .ref mkeptValues2, .ref mkeptHeights2, .ref mkeptHeats2, .ref mkeptSights, .long mo_hash]))] := hD
    refine lv_if_eq (tgt := 27) hx hb dX12_tape_19 (by decide) (fun c_14 => ?_) (fun c_14 => ?_)
    · have k_14 : (fn_X12_lacks mo_many).toInt = 0 := wk_eq c_14
      have k_15 : 1 ≤ mo_many.toInt := wk_orR k_12 (by rw [k_14]; decide)
      replace hF := hF.trans (if_pos c_14)
      refine lv_aload_n hx hb dX12_tape_27 rfl (lv_at hl 0 rfl) ?_
      refine lv_iload_n hx hb dX12_tape_28 rfl (lv_at hl 1 rfl) ?_
      refine wk_iV (As := [.int a]) (rest := []) (wc := [(mo, .inr (12, [.ref mpage, .int mo_pageMany, .int mo_law, .int mo_many, .int mo_asked, .int mo_looksAll, .int mo_changes, .int mo_rowsRead, .ref mkeys, .ref mvalues, .ref mheights, .ref mheats, .int mo_secondMany, .ref msecondKeys, .ref msecondValues, .ref msecondHeights, .ref msecondHeats, .int mo_foundAt, .int mo_foundLooks, .int mo_foundLane, .int mo_bestsDone, .ref msaved, .ref mbestHeights, .int mo_seenMany, .ref msights, .ref mby, .int mo_seedNow, .int mo_keptRow, .int mo_keptMany, .int mo_keptSecond, .int mo_keptAsked, .int mo_keptLooks, .int mo_keptChanges, .int mo_keptSeen, .ref mkeptKeys, .ref mkeptValues, .ref mkeptHeights, .ref mkeptHeats, .ref mkeptKeys2, .ref mkeptValues2, .ref mkeptHeights2, .ref mkeptHeats2, .ref mkeptSights, .long mo_hash])), (mkeys, .inl (cy, 8, .inl mkeys_a)), (mvalues, .inl (cy, 8, .inl mvalues_a)), (mheights, .inl (cy, 8, .inl mheights_a))]) (wr := []) (n := 1) ⟨hx, hb, hml, hown, htb⟩ (c_X12_tapeAt l D cy mo mpage mkeys mvalues mheights mheats msecondKeys msecondValues msecondHeights msecondHeats msaved mbestHeights msights mby mkeptKeys mkeptValues mkeptHeights mkeptHeats mkeptKeys2 mkeptValues2 mkeptHeights2 mkeptHeats2 mkeptSights mo_pageMany mo_law mo_many mo_asked mo_looksAll mo_changes mo_rowsRead mo_secondMany mo_foundAt mo_foundLooks mo_foundLane mo_bestsDone mo_seenMany mo_seedNow mo_keptRow mo_keptMany mo_keptSecond mo_keptAsked mo_keptLooks mo_keptChanges mo_keptSeen mo_hash mkeys_a mvalues_a mheights_a a (show 0 ≤ mo_pageMany.toInt ∧ mo_pageMany.toInt ≤ 44 from by omega) (show 0 ≤ mo_many.toInt ∧ mo_many.toInt ≤ 8 from by omega) (show 0 ≤ mo_secondMany.toInt ∧ mo_secondMany.toInt ≤ 8 from by omega) (show (-1) ≤ mo_foundAt.toInt ∧ mo_foundAt.toInt ≤ 7 from by omega) (show 0 ≤ mo_seenMany.toInt ∧ mo_seenMany.toInt ≤ 6 from by omega) (show 0 ≤ mo_keptMany.toInt ∧ mo_keptMany.toInt ≤ 8 from by omega) (show 0 ≤ mo_keptSecond.toInt ∧ mo_keptSecond.toInt ≤ 8 from by omega) (show 0 ≤ mo_keptSeen.toInt ∧ mo_keptSeen.toInt ≤ 6 from by omega) (show 0 ≤ a.toInt ∧ a.toInt ≤ 60 from by omega)) tw_1084 tw_1081 tw_1083 tw_48 tw_71 rfl rfl (by decide +kernel) ⟨Nat.le_of_ble_eq_true rfl, Nat.le_of_ble_eq_true rfl⟩ hK hP hD hS hA [3, 0, 1, 2] [] rfl rfl rfl rfl (by decide) 0 (ci := 12) rfl rfl rfl hl.1 rfl (Nat.le_of_ble_eq_true rfl) dX12_tape_29 ⟨Nat.le_of_ble_eq_true rfl, Nat.le_of_ble_eq_true rfl⟩ (fun r_16 u_17 H locs hw_18 hP hD hS => ?_)
      refine W.widen (k := 0) (n := 0) (by decide) (by decide) ?_
      obtain ⟨hw_18, k_19⟩ := hw_18
      have hw_18 : r_16 = (fn_X12_tapeAt mo_law mo_many mkeys_a mvalues_a mheights_a a) := hw_18
      subst hw_18
      have k_19 : (wk_or ((fn_X12_tapeAt mo_law mo_many mkeys_a mvalues_a mheights_a a).toInt = (-1)) (a.toInt ≤ 41)) := k_19
      have hP : va_P D classes [(mo, .inr (12, [.ref mpage, .int mo_pageMany, .int mo_law, .int mo_many, .int mo_asked, .int mo_looksAll, .int mo_changes, .int mo_rowsRead, .ref mkeys, .ref mvalues, .ref mheights, .ref mheats, .int mo_secondMany, .ref msecondKeys, .ref msecondValues, .ref msecondHeights, .ref msecondHeats, .int mo_foundAt, .int mo_foundLooks, .int mo_foundLane, .int mo_bestsDone, .ref msaved, .ref mbestHeights, .int mo_seenMany, .ref msights, .ref mby, .int mo_seedNow, .int mo_keptRow, .int mo_keptMany, .int mo_keptSecond, .int mo_keptAsked, .int mo_keptLooks, .int mo_keptChanges, .int mo_keptSeen, .ref mkeptKeys, .ref mkeptValues, .ref mkeptHeights, .ref mkeptHeats, .ref mkeptKeys2, .ref mkeptValues2, .ref mkeptHeights2, .ref mkeptHeats2, .ref mkeptSights, .long mo_hash])), (mkeys, .inl (cy, 8, .inl mkeys_a)), (mvalues, .inl (cy, 8, .inl mvalues_a)), (mheights, .inl (cy, 8, .inl mheights_a))] H := hP
      have hD : va_D A [(mo, .inr (12, [.ref mpage, .int mo_pageMany, .int mo_law, .int mo_many, .int mo_asked, .int mo_looksAll, .int mo_changes, .int mo_rowsRead, .ref mkeys, .ref mvalues, .ref mheights, .ref mheats, .int mo_secondMany, .ref msecondKeys, .ref msecondValues, .ref msecondHeights, .ref msecondHeats, .int mo_foundAt, .int mo_foundLooks, .int mo_foundLane, .int mo_bestsDone, .ref msaved, .ref mbestHeights, .int mo_seenMany, .ref msights, .ref mby, .int mo_seedNow, .int mo_keptRow, .int mo_keptMany, .int mo_keptSecond, .int mo_keptAsked, .int mo_keptLooks, .int mo_keptChanges, .int mo_keptSeen, .ref mkeptKeys, .ref mkeptValues, .ref mkeptHeights, .ref mkeptHeats, .ref mkeptKeys2, .ref mkeptValues2, .ref mkeptHeights2, .ref mkeptHeats2, .ref mkeptSights, .long mo_hash])), (mkeys, .inl (cy, 8, .inl mkeys_a)), (mvalues, .inl (cy, 8, .inl mvalues_a)), (mheights, .inl (cy, 8, .inl mheights_a))] := hD
      refine W.widen (k := 0) (n := 0) (by decide) (by decide) ?_
      exact hret (fn_X12_tapeAt mo_law mo_many mkeys_a mvalues_a mheights_a a) () _ _ _ 32 (wk_sub9 (is := [0, 1, 2, 3]) hP rfl) (hD.sub [0, 1, 2, 3] rfl rfl) hS dX12_tape_32 hF.symm
    · have k_14 : ¬ (fn_X12_lacks mo_many).toInt = 0 := wk_neq c_14
      have k_20 : mo_many.toInt = 0 := wk_orR k_11 k_14
      replace hF := hF.trans (if_neg c_14)
      refine lv_bipush (v := (-103)) hx hb dX12_tape_22 (by decide) ?_
      refine lv_goto (tgt := 32) hx hb dX12_tape_24 (by decide) ?_
      refine W.widen (k := 0) (n := 0) (by decide) (by decide) ?_
      exact hret (-103) () _ _ _ 32 (wk_sub9 (is := [3, 0, 1, 2]) hP rfl) (hD.sub [3, 0, 1, 2] rfl rfl) hS dX12_tape_32 hF.symm
  · have k_6 : ¬ (0 ≤ a.toInt ∧ a.toInt ≤ 50) := by have h9 := wk_in0 c_6; simp only [wk_64] at h9; exact h9
    replace hF := hF.trans (if_pos c_6)
    refine lv_bipush (v := (-102)) hx hb dX12_tape_12 (by decide) ?_
    refine W.widen (k := 0) (n := 0) (by decide) (by decide) ?_
    exact hret (-102) () _ _ _ 14 (wk_sub9 (is := [0, 1, 2, 3]) hP rfl) (hD.sub [0, 1, 2, 3] rfl rfl) hS dX12_tape_14 hF.symm
