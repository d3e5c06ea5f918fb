theorem dX12_in_0 : decode cX12_in 0 = .ok (.lload_n 0, 1) := by decide +kernel
theorem dX12_in_1 : decode cX12_in 1 = .ok (.lload_n 2, 1) := by decide +kernel
theorem dX12_in_2 : decode cX12_in 2 = .ok (.lcmp, 1) := by decide +kernel
theorem dX12_in_3 : decode cX12_in 3 = .ok (.ifCond .lt 14, 3) := by decide +kernel
theorem dX12_in_6 : decode cX12_in 6 = .ok (.lload_n 0, 1) := by decide +kernel
theorem dX12_in_7 : decode cX12_in 7 = .ok (.lload 4, 2) := by decide +kernel
theorem dX12_in_9 : decode cX12_in 9 = .ok (.lcmp, 1) := by decide +kernel
theorem dX12_in_10 : decode cX12_in 10 = .ok (.ifCond .gt 7, 3) := by decide +kernel
theorem dX12_in_13 : decode cX12_in 13 = .ok (.iconst 1, 1) := by decide +kernel
theorem dX12_in_14 : decode cX12_in 14 = .ok (.goto 4, 3) := by decide +kernel
theorem dX12_in_17 : decode cX12_in 17 = .ok (.iconst 0, 1) := by decide +kernel
theorem dX12_in_18 : decode cX12_in 18 = .ok (.ireturn, 1) := by decide +kernel
set_option maxHeartbeats 4000000 in
set_option maxRecDepth 100000 in
theorem c_X12_in (l : Launch) (D : va_G) (cy : ClassId) (v lo hi : Int64) : wk_Ci l yX12_in cX12_in 6 (some .boolean) { frames := 0, cells := 0, slots := 0, locals := 0 } D cy [.long v, .long lo, .long hi] [] 0 0 (fun (r : Int32) (u : Unit) => r = wk_in v lo hi) (fun u => []) := by
  refine wk_mkCi (by decide) (Nat.le_of_ble_eq_true rfl) ?_
  intro p e s m below meth c A ls B hA hK hP hD hS hl
  obtain ⟨hx, hb, hr, hlocks, hml, hown, htb, hin⟩ := B
  have hl : lv_has ls 6 [(0, .long v), (2, .long lo), (4, .long hi)] := hl
  refine lv_lload_n hx hb dX12_in_0 rfl (lv_at hl 0 rfl) ?_
  refine lv_lload_n hx hb dX12_in_1 rfl (lv_at hl 1 rfl) ?_
  refine W.lcmp hx hb dX12_in_2 ?_
  refine lv_if_lt (tgt := 17) hx hb dX12_in_3 (by decide) (fun c_1 => ?_) (fun c_1 => ?_)
  · have k_1 : v.toInt < lo.toInt := Int64.lt_iff_toInt_lt.mp ((lg_cmp_lt v lo).mp c_1)
    refine lv_iconst (v := 0) hx hb dX12_in_17 (by decide) ?_
    refine W.widen (k := 0) (n := 0) (by decide) (by decide) ?_
    exact wk_zret () hx hb hr hlocks rfl (if_neg (by omega)).symm hK hP hD hS [] rfl rfl dX12_in_18
  · have k_1 : ¬ v.toInt < lo.toInt := fun h9 => c_1 ((lg_cmp_lt v lo).mpr (Int64.lt_iff_toInt_lt.mpr h9))
    refine lv_lload_n hx hb dX12_in_6 rfl (lv_at hl 0 rfl) ?_
    refine lv_lload hx hb dX12_in_7 (lv_at hl 2 rfl) ?_
    refine W.lcmp hx hb dX12_in_9 ?_
    refine lv_if_gt (tgt := 17) hx hb dX12_in_10 (by decide) (fun c_2 => ?_) (fun c_2 => ?_)
    · have k_2 : hi.toInt < v.toInt := Int64.lt_iff_toInt_lt.mp ((lg_cmp_gt v hi).mp c_2)
      refine lv_iconst (v := 0) hx hb dX12_in_17 (by decide) ?_
      refine W.widen (k := 0) (n := 0) (by decide) (by decide) ?_
      exact wk_zret () hx hb hr hlocks rfl (if_neg (by omega)).symm hK hP hD hS [] rfl rfl dX12_in_18
    · have k_2 : ¬ hi.toInt < v.toInt := fun h9 => c_2 ((lg_cmp_gt v hi).mpr (Int64.lt_iff_toInt_lt.mpr h9))
      refine lv_iconst (v := 1) hx hb dX12_in_13 (by decide) ?_
      refine lv_goto (tgt := 18) hx hb dX12_in_14 (by decide) ?_
      refine W.widen (k := 0) (n := 0) (by decide) (by decide) ?_
      exact wk_zret () hx hb hr hlocks rfl (if_pos (by omega)).symm hK hP hD hS [] rfl rfl dX12_in_18
theorem dX12_wide_0 : decode cX12_wide 0 = .ok (.aload_n 0, 1) := by decide +kernel
theorem dX12_wide_1 : decode cX12_wide 1 = .ok (.getfield 7, 3) := by decide +kernel
theorem dX12_wide_4 : decode cX12_wide 4 = .ok (.iconst 0, 1) := by decide +kernel
theorem dX12_wide_5 : decode cX12_wide 5 = .ok (.iaload, 1) := by decide +kernel
theorem dX12_wide_6 : decode cX12_wide 6 = .ok (.bipush 116, 2) := by decide +kernel
theorem dX12_wide_8 : decode cX12_wide 8 = .ok (.if_icmp .ne 7, 3) := by decide +kernel
theorem dX12_wide_15 : decode cX12_wide 15 = .ok (.iconst 4, 1) := by decide +kernel
theorem dX12_wide_16 : decode cX12_wide 16 = .ok (.ireturn, 1) := by decide +kernel
set_option maxHeartbeats 4000000 in
set_option maxRecDepth 100000 in
theorem c_X12_wide (l : Launch) (D : va_G) (cy : ClassId) (mo mpage mkeys mvalues mheights mheats msecondKeys msecondValues msecondHeights msecondHeats msaved mbestHeights msights mby mkeptKeys mkeptValues mkeptHeights mkeptHeats mkeptKeys2 mkeptValues2 mkeptHeights2 mkeptHeats2 mkeptSights : Nat) (hh : Int64) : wk_Ci l yX12_wide cX12_wide 1 (some .int) { frames := 0, cells := 0, slots := 0, locals := 0 } D cy [.ref mo] [(mo, .inr (12, [.ref mpage, .int 0, .int 0, .int 0, .int 0, .int 0, .int 0, .int 0, .ref mkeys, .ref mvalues, .ref mheights, .ref mheats, .int 0, .ref msecondKeys, .ref msecondValues, .ref msecondHeights, .ref msecondHeats, .int 0, .int 0, .int 0, .int 0, .ref msaved, .ref mbestHeights, .int 0, .ref msights, .ref mby, .int 0, .int (-1), .int 0, .int 0, .int 0, .int 0, .int 0, .int 0, .ref mkeptKeys, .ref mkeptValues, .ref mkeptHeights, .ref mkeptHeats, .ref mkeptKeys2, .ref mkeptValues2, .ref mkeptHeights2, .ref mkeptHeats2, .ref mkeptSights, .long hh])), (mpage, .inl (cy, 44, .inl (fun _ => 0)))] 0 0 (fun (r : Int32) (u : Unit) => r = 4) (fun u => [(mo, .inr (12, [.ref mpage, .int 0, .int 0, .int 0, .int 0, .int 0, .int 0, .int 0, .ref mkeys, .ref mvalues, .ref mheights, .ref mheats, .int 0, .ref msecondKeys, .ref msecondValues, .ref msecondHeights, .ref msecondHeats, .int 0, .int 0, .int 0, .int 0, .ref msaved, .ref mbestHeights, .int 0, .ref msights, .ref mby, .int 0, .int (-1), .int 0, .int 0, .int 0, .int 0, .int 0, .int 0, .ref mkeptKeys, .ref mkeptValues, .ref mkeptHeights, .ref mkeptHeats, .ref mkeptKeys2, .ref mkeptValues2, .ref mkeptHeights2, .ref mkeptHeats2, .ref mkeptSights, .long hh])), (mpage, .inl (cy, 44, .inl (fun _ => 0)))]) := by
  refine wk_mkCi (by decide) (Nat.le_of_ble_eq_true rfl) ?_
  intro p e s m below meth c A ls B hA hK hP hD hS hl
  obtain ⟨hx, hb, hr, hlocks, hml, hown, htb, hin⟩ := B
  have hl : lv_has ls 1 [(0, .ref mo)] := hl
  refine lv_aload_n hx hb dX12_wide_0 rfl (lv_at hl 0 rfl) ?_
  refine va_get (D := D) (ci := 12) (v := .ref mpage) (C := RX12) (T := TX12) (N := 44) hx hb htb inX12 hown hK hP 0 rfl rfl 0 (by decide) (htb _ tw_763) (fun _ h9 => h9) rfl dX12_wide_1 ?_
  refine lv_iconst (v := 0) hx hb dX12_wide_4 (by decide) ?_
  refine va_iald hx hb hK hP 1 0 rfl rfl (show vp_in 0 44 by unfold vp_in; decide) dX12_wide_5 ?_
  refine wk_toi (y := 0) rfl ?_
  refine lv_bipush (v := 116) hx hb dX12_wide_6 (by decide) ?_
  refine lv_icmp_ne (tgt := 15) hx hb dX12_wide_8 (by decide) (fun _ => ?_) (fun c_1 => absurd c_1 (by decide))
  refine lv_iconst (v := 4) hx hb dX12_wide_15 (by decide) ?_
  refine W.widen (k := 0) (n := 0) (by decide) (by decide) ?_
  exact wk_iret () hx hb hr hlocks rfl hK hP hD hS [0, 1] rfl rfl dX12_wide_16
theorem dX12_lacks_0 : decode cX12_lacks 0 = .ok (.aload_n 0, 1) := by decide +kernel
theorem dX12_lacks_1 : decode cX12_lacks 1 = .ok (.getfield 121, 3) := by decide +kernel
theorem dX12_lacks_4 : decode cX12_lacks 4 = .ok (.ifCond .ne 7, 3) := by decide +kernel
theorem dX12_lacks_7 : decode cX12_lacks 7 = .ok (.iconst 1, 1) := by decide +kernel
theorem dX12_lacks_8 : decode cX12_lacks 8 = .ok (.goto 4, 3) := by decide +kernel
theorem dX12_lacks_12 : decode cX12_lacks 12 = .ok (.ireturn, 1) := by decide +kernel
set_option maxHeartbeats 4000000 in
set_option maxRecDepth 100000 in
theorem c_X12_lacks (l : Launch) (D : va_G) (cy : ClassId) (mo mpage mkeys mvalues mheights mheats msecondKeys msecondValues msecondHeights msecondHeats msaved mbestHeights msights mby mkeptKeys mkeptValues mkeptHeights mkeptHeats mkeptKeys2 mkeptValues2 mkeptHeights2 mkeptHeats2 mkeptSights : Nat) (hh : Int64) : wk_Ci l yX12_lacks cX12_lacks 1 (some .boolean) { frames := 0, cells := 0, slots := 0, locals := 0 } D cy [.ref mo] [(mo, .inr (12, [.ref mpage, .int 0, .int 0, .int 0, .int 0, .int 0, .int 0, .int 0, .ref mkeys, .ref mvalues, .ref mheights, .ref mheats, .int 0, .ref msecondKeys, .ref msecondValues, .ref msecondHeights, .ref msecondHeats, .int 0, .int 0, .int 0, .int 0, .ref msaved, .ref mbestHeights, .int 0, .ref msights, .ref mby, .int 0, .int (-1), .int 0, .int 0, .int 0, .int 0, .int 0, .int 0, .ref mkeptKeys, .ref mkeptValues, .ref mkeptHeights, .ref mkeptHeats, .ref mkeptKeys2, .ref mkeptValues2, .ref mkeptHeights2, .ref mkeptHeats2, .ref mkeptSights, .long hh]))] 0 0 (fun (r : Int32) (u : Unit) => r = 1) (fun u => [(mo, .inr (12, [.ref mpage, .int 0, .int 0, .int 0, .int 0, .int 0, .int 0, .int 0, .ref mkeys, .ref mvalues, .ref mheights, .ref mheats, .int 0, .ref msecondKeys, .ref msecondValues, .ref msecondHeights, .ref msecondHeats, .int 0, .int 0, .int 0, .int 0, .ref msaved, .ref mbestHeights, .int 0, .ref msights, .ref mby, .int 0, .int (-1), .int 0, .int 0, .int 0, .int 0, .int 0, .int 0, .ref mkeptKeys, .ref mkeptValues, .ref mkeptHeights, .ref mkeptHeats, .ref mkeptKeys2, .ref mkeptValues2, .ref mkeptHeights2, .ref mkeptHeats2, .ref mkeptSights, .long hh]))]) := by
  refine wk_mkCi (by decide) (Nat.le_of_ble_eq_true rfl) ?_
  intro p e s m below meth c A ls B hA hK hP hD hS hl
  obtain ⟨hx, hb, hr, hlocks, hml, hown, htb, hin⟩ := B
  have hl : lv_has ls 1 [(0, .ref mo)] := hl
  refine lv_aload_n hx hb dX12_lacks_0 rfl (lv_at hl 0 rfl) ?_
  refine va_get (D := D) (ci := 12) (v := .int 0) (C := RX12) (T := TX12) (N := 44) hx hb htb inX12 hown hK hP 0 rfl rfl 3 (by decide) (htb _ tw_766) (fun _ h9 => h9) rfl dX12_lacks_1 ?_
  refine lv_if_ne (tgt := 11) hx hb dX12_lacks_4 (by decide) (fun c_1 => absurd (by decide) c_1) (fun _ => ?_)
  refine lv_iconst (v := 1) hx hb dX12_lacks_7 (by decide) ?_
  refine lv_goto (tgt := 12) hx hb dX12_lacks_8 (by decide) ?_
  refine W.widen (k := 0) (n := 0) (by decide) (by decide) ?_
  exact wk_zret () hx hb hr hlocks rfl rfl hK hP hD hS [0] rfl rfl dX12_lacks_12
theorem dX12_lanes_0 : decode cX12_lanes 0 = .ok (.iconst 0, 1) := by decide +kernel
theorem dX12_lanes_1 : decode cX12_lanes 1 = .ok (.istore_n 1, 1) := by decide +kernel
theorem dX12_lanes_2 : decode cX12_lanes 2 = .ok (.iconst 0, 1) := by decide +kernel
theorem dX12_lanes_3 : decode cX12_lanes 3 = .ok (.istore_n 2, 1) := by decide +kernel
theorem dX12_lanes_4 : decode cX12_lanes 4 = .ok (.iload_n 2, 1) := by decide +kernel
theorem dX12_lanes_5 : decode cX12_lanes 5 = .ok (.aload_n 0, 1) := by decide +kernel
theorem dX12_lanes_6 : decode cX12_lanes 6 = .ok (.getfield 121, 3) := by decide +kernel
theorem dX12_lanes_9 : decode cX12_lanes 9 = .ok (.if_icmp .ge 30, 3) := by decide +kernel
theorem dX12_lanes_39 : decode cX12_lanes 39 = .ok (.iload_n 1, 1) := by decide +kernel
theorem dX12_lanes_40 : decode cX12_lanes 40 = .ok (.ireturn, 1) := by decide +kernel
set_option maxHeartbeats 4000000 in
set_option maxRecDepth 100000 in
theorem c_X12_lanes (l : Launch) (D : va_G) (cy : ClassId) (mo mpage mkeys mvalues mheights mheats msecondKeys msecondValues msecondHeights msecondHeats msaved mbestHeights msights mby mkeptKeys mkeptValues mkeptHeights mkeptHeats mkeptKeys2 mkeptValues2 mkeptHeights2 mkeptHeats2 mkeptSights : Nat) (hh : Int64) : wk_Ci l yX12_lanes cX12_lanes 3 (some .int) { frames := 0, cells := 0, slots := 0, locals := 0 } D cy [.ref mo] [(mo, .inr (12, [.ref mpage, .int 0, .int 0, .int 0, .int 0, .int 0, .int 0, .int 0, .ref mkeys, .ref mvalues, .ref mheights, .ref mheats, .int 0, .ref msecondKeys, .ref msecondValues, .ref msecondHeights, .ref msecondHeats, .int 0, .int 0, .int 0, .int 0, .ref msaved, .ref mbestHeights, .int 0, .ref msights, .ref mby, .int 0, .int (-1), .int 0, .int 0, .int 0, .int 0, .int 0, .int 0, .ref mkeptKeys, .ref mkeptValues, .ref mkeptHeights, .ref mkeptHeats, .ref mkeptKeys2, .ref mkeptValues2, .ref mkeptHeights2, .ref mkeptHeats2, .ref mkeptSights, .long hh]))] 0 0 (fun (r : Int32) (u : Unit) => r = 0) (fun u => [(mo, .inr (12, [.ref mpage, .int 0, .int 0, .int 0, .int 0, .int 0, .int 0, .int 0, .ref mkeys, .ref mvalues, .ref mheights, .ref mheats, .int 0, .ref msecondKeys, .ref msecondValues, .ref msecondHeights, .ref msecondHeats, .int 0, .int 0, .int 0, .int 0, .ref msaved, .ref mbestHeights, .int 0, .ref msights, .ref mby, .int 0, .int (-1), .int 0, .int 0, .int 0, .int 0, .int 0, .int 0, .ref mkeptKeys, .ref mkeptValues, .ref mkeptHeights, .ref mkeptHeats, .ref mkeptKeys2, .ref mkeptValues2, .ref mkeptHeights2, .ref mkeptHeats2, .ref mkeptSights, .long hh]))]) := by
  refine wk_mkCi (by decide) (Nat.le_of_ble_eq_true rfl) ?_
  intro p e s m below meth c A ls B hA hK hP hD hS hl
  obtain ⟨hx, hb, hr, hlocks, hml, hown, htb, hin⟩ := B
  have hl : lv_has ls 3 [(0, .ref mo)] := hl
  refine lv_iconst (v := 0) hx hb dX12_lanes_0 (by decide) ?_
  refine lv_istore_n (lv' := [(1, .int 0), (0, .ref mo)]) hx hb dX12_lanes_1 rfl hl (by decide) rfl (fun ls hl => ?_)
  refine lv_iconst (v := 0) hx hb dX12_lanes_2 (by decide) ?_
  refine lv_istore_n (lv' := [(2, .int 0), (1, .int 0), (0, .ref mo)]) hx hb dX12_lanes_3 rfl hl (by decide) rfl (fun ls hl => ?_)
  refine lv_iload_n hx hb dX12_lanes_4 rfl (lv_at hl 0 rfl) ?_
  refine lv_aload_n hx hb dX12_lanes_5 rfl (lv_at hl 2 rfl) ?_
  refine va_get (D := D) (ci := 12) (v := .int 0) (C := RX12) (T := TX12) (N := 44) hx hb htb inX12 hown hK hP 0 rfl rfl 3 (by decide) (htb _ tw_766) (fun _ h9 => h9) rfl dX12_lanes_6 ?_
  refine lv_icmp_ge (tgt := 39) hx hb dX12_lanes_9 (by decide) (fun _ => ?_) (fun c_1 => absurd (by decide) c_1)
  refine lv_iload_n hx hb dX12_lanes_39 rfl (lv_at hl 1 rfl) ?_
  refine W.widen (k := 0) (n := 0) (by decide) (by decide) ?_
  exact wk_iret () hx hb hr hlocks rfl hK hP hD hS [0] rfl rfl dX12_lanes_40
theorem dX12_linksOf_0 : decode cX12_linksOf 0 = .ok (.iconst 0, 1) := by decide +kernel
theorem dX12_linksOf_1 : decode cX12_linksOf 1 = .ok (.istore_n 1, 1) := by decide +kernel
theorem dX12_linksOf_2 : decode cX12_linksOf 2 = .ok (.iconst 0, 1) := by decide +kernel
theorem dX12_linksOf_3 : decode cX12_linksOf 3 = .ok (.istore_n 2, 1) := by decide +kernel
theorem dX12_linksOf_4 : decode cX12_linksOf 4 = .ok (.iload_n 2, 1) := by decide +kernel
theorem dX12_linksOf_5 : decode cX12_linksOf 5 = .ok (.aload_n 0, 1) := by decide +kernel
theorem dX12_linksOf_6 : decode cX12_linksOf 6 = .ok (.getfield 121, 3) := by decide +kernel
theorem dX12_linksOf_9 : decode cX12_linksOf 9 = .ok (.if_icmp .ge 18, 3) := by decide +kernel
theorem dX12_linksOf_27 : decode cX12_linksOf 27 = .ok (.iload_n 1, 1) := by decide +kernel
theorem dX12_linksOf_28 : decode cX12_linksOf 28 = .ok (.ireturn, 1) := by decide +kernel
set_option maxHeartbeats 4000000 in
set_option maxRecDepth 100000 in
theorem c_X12_linksOf (l : Launch) (D : va_G) (cy : ClassId) (mo mpage mkeys mvalues mheights mheats msecondKeys msecondValues msecondHeights msecondHeats msaved mbestHeights msights mby mkeptKeys mkeptValues mkeptHeights mkeptHeats mkeptKeys2 mkeptValues2 mkeptHeights2 mkeptHeats2 mkeptSights : Nat) (hh : Int64) : wk_Ci l yX12_linksOf cX12_linksOf 3 (some .int) { frames := 0, cells := 0, slots := 0, locals := 0 } D cy [.ref mo] [(mo, .inr (12, [.ref mpage, .int 0, .int 0, .int 0, .int 0, .int 0, .int 0, .int 0, .ref mkeys, .ref mvalues, .ref mheights, .ref mheats, .int 0, .ref msecondKeys, .ref msecondValues, .ref msecondHeights, .ref msecondHeats, .int 0, .int 0, .int 0, .int 0, .ref msaved, .ref mbestHeights, .int 0, .ref msights, .ref mby, .int 0, .int (-1), .int 0, .int 0, .int 0, .int 0, .int 0, .int 0, .ref mkeptKeys, .ref mkeptValues, .ref mkeptHeights, .ref mkeptHeats, .ref mkeptKeys2, .ref mkeptValues2, .ref mkeptHeights2, .ref mkeptHeats2, .ref mkeptSights, .long hh]))] 0 0 (fun (r : Int32) (u : Unit) => r = 0) (fun u => [(mo, .inr (12, [.ref mpage, .int 0, .int 0, .int 0, .int 0, .int 0, .int 0, .int 0, .ref mkeys, .ref mvalues, .ref mheights, .ref mheats, .int 0, .ref msecondKeys, .ref msecondValues, .ref msecondHeights, .ref msecondHeats, .int 0, .int 0, .int 0, .int 0, .ref msaved, .ref mbestHeights, .int 0, .ref msights, .ref mby, .int 0, .int (-1), .int 0, .int 0, .int 0, .int 0, .int 0, .int 0, .ref mkeptKeys, .ref mkeptValues, .ref mkeptHeights, .ref mkeptHeats, .ref mkeptKeys2, .ref mkeptValues2, .ref mkeptHeights2, .ref mkeptHeats2, .ref mkeptSights, .long hh]))]) := by
  refine wk_mkCi (by decide) (Nat.le_of_ble_eq_true rfl) ?_
  intro p e s m below meth c A ls B hA hK hP hD hS hl
  obtain ⟨hx, hb, hr, hlocks, hml, hown, htb, hin⟩ := B
  have hl : lv_has ls 3 [(0, .ref mo)] := hl
  refine lv_iconst (v := 0) hx hb dX12_linksOf_0 (by decide) ?_
  refine lv_istore_n (lv' := [(1, .int 0), (0, .ref mo)]) hx hb dX12_linksOf_1 rfl hl (by decide) rfl (fun ls hl => ?_)
  refine lv_iconst (v := 0) hx hb dX12_linksOf_2 (by decide) ?_
  refine lv_istore_n (lv' := [(2, .int 0), (1, .int 0), (0, .ref mo)]) hx hb dX12_linksOf_3 rfl hl (by decide) rfl (fun ls hl => ?_)
  refine lv_iload_n hx hb dX12_linksOf_4 rfl (lv_at hl 0 rfl) ?_
  refine lv_aload_n hx hb dX12_linksOf_5 rfl (lv_at hl 2 rfl) ?_
  refine va_get (D := D) (ci := 12) (v := .int 0) (C := RX12) (T := TX12) (N := 44) hx hb htb inX12 hown hK hP 0 rfl rfl 3 (by decide) (htb _ tw_766) (fun _ h9 => h9) rfl dX12_linksOf_6 ?_
  refine lv_icmp_ge (tgt := 27) hx hb dX12_linksOf_9 (by decide) (fun _ => ?_) (fun c_1 => absurd (by decide) c_1)
  refine lv_iload_n hx hb dX12_linksOf_27 rfl (lv_at hl 1 rfl) ?_
  refine W.widen (k := 0) (n := 0) (by decide) (by decide) ?_
  exact wk_iret () hx hb hr hlocks rfl hK hP hD hS [0] rfl rfl dX12_linksOf_28
theorem dX12_sumOf_0 : decode cX12_sumOf 0 = .ok (.iconst 0, 1) := by decide +kernel
theorem dX12_sumOf_1 : decode cX12_sumOf 1 = .ok (.istore_n 2, 1) := by decide +kernel
theorem dX12_sumOf_2 : decode cX12_sumOf 2 = .ok (.iconst 0, 1) := by decide +kernel
theorem dX12_sumOf_3 : decode cX12_sumOf 3 = .ok (.istore_n 3, 1) := by decide +kernel
theorem dX12_sumOf_4 : decode cX12_sumOf 4 = .ok (.iload_n 3, 1) := by decide +kernel
theorem dX12_sumOf_5 : decode cX12_sumOf 5 = .ok (.aload_n 0, 1) := by decide +kernel
theorem dX12_sumOf_6 : decode cX12_sumOf 6 = .ok (.getfield 121, 3) := by decide +kernel
theorem dX12_sumOf_9 : decode cX12_sumOf 9 = .ok (.if_icmp .ge 15, 3) := by decide +kernel
theorem dX12_sumOf_24 : decode cX12_sumOf 24 = .ok (.iload_n 2, 1) := by decide +kernel
theorem dX12_sumOf_25 : decode cX12_sumOf 25 = .ok (.ireturn, 1) := by decide +kernel
set_option maxHeartbeats 4000000 in
set_option maxRecDepth 100000 in
theorem c_X12_sumOf (l : Launch) (D : va_G) (cy : ClassId) (mo mpage mkeys mvalues mheights mheats msecondKeys msecondValues msecondHeights msecondHeats msaved mbestHeights msights mby mkeptKeys mkeptValues mkeptHeights mkeptHeats mkeptKeys2 mkeptValues2 mkeptHeights2 mkeptHeats2 mkeptSights zz : Nat) (hh : Int64) : wk_Ci l yX12_sumOf cX12_sumOf 4 (some .int) { frames := 0, cells := 0, slots := 0, locals := 0 } D cy [.ref mo, .ref zz] [(mo, .inr (12, [.ref mpage, .int 0, .int 0, .int 0, .int 0, .int 0, .int 0, .int 0, .ref mkeys, .ref mvalues, .ref mheights, .ref mheats, .int 0, .ref msecondKeys, .ref msecondValues, .ref msecondHeights, .ref msecondHeats, .int 0, .int 0, .int 0, .int 0, .ref msaved, .ref mbestHeights, .int 0, .ref msights, .ref mby, .int 0, .int (-1), .int 0, .int 0, .int 0, .int 0, .int 0, .int 0, .ref mkeptKeys, .ref mkeptValues, .ref mkeptHeights, .ref mkeptHeats, .ref mkeptKeys2, .ref mkeptValues2, .ref mkeptHeights2, .ref mkeptHeats2, .ref mkeptSights, .long hh]))] 0 0 (fun (r : Int32) (u : Unit) => r = 0) (fun u => [(mo, .inr (12, [.ref mpage, .int 0, .int 0, .int 0, .int 0, .int 0, .int 0, .int 0, .ref mkeys, .ref mvalues, .ref mheights, .ref mheats, .int 0, .ref msecondKeys, .ref msecondValues, .ref msecondHeights, .ref msecondHeats, .int 0, .int 0, .int 0, .int 0, .ref msaved, .ref mbestHeights, .int 0, .ref msights, .ref mby, .int 0, .int (-1), .int 0, .int 0, .int 0, .int 0, .int 0, .int 0, .ref mkeptKeys, .ref mkeptValues, .ref mkeptHeights, .ref mkeptHeats, .ref mkeptKeys2, .ref mkeptValues2, .ref mkeptHeights2, .ref mkeptHeats2, .ref mkeptSights, .long hh]))]) := by
  refine wk_mkCi (by decide) (Nat.le_of_ble_eq_true rfl) ?_
  intro p e s m below meth c A ls B hA hK hP hD hS hl
  obtain ⟨hx, hb, hr, hlocks, hml, hown, htb, hin⟩ := B
  have hl : lv_has ls 4 [(0, .ref mo), (1, .ref zz)] := hl
  refine lv_iconst (v := 0) hx hb dX12_sumOf_0 (by decide) ?_
  refine lv_istore_n (lv' := [(2, .int 0), (0, .ref mo), (1, .ref zz)]) hx hb dX12_sumOf_1 rfl hl (by decide) rfl (fun ls hl => ?_)
  refine lv_iconst (v := 0) hx hb dX12_sumOf_2 (by decide) ?_
  refine lv_istore_n (lv' := [(3, .int 0), (2, .int 0), (0, .ref mo), (1, .ref zz)]) hx hb dX12_sumOf_3 rfl hl (by decide) rfl (fun ls hl => ?_)
  refine lv_iload_n hx hb dX12_sumOf_4 rfl (lv_at hl 0 rfl) ?_
  refine lv_aload_n hx hb dX12_sumOf_5 rfl (lv_at hl 2 rfl) ?_
  refine va_get (D := D) (ci := 12) (v := .int 0) (C := RX12) (T := TX12) (N := 44) hx hb htb inX12 hown hK hP 0 rfl rfl 3 (by decide) (htb _ tw_766) (fun _ h9 => h9) rfl dX12_sumOf_6 ?_
  refine lv_icmp_ge (tgt := 24) hx hb dX12_sumOf_9 (by decide) (fun _ => ?_) (fun c_1 => absurd (by decide) c_1)
  refine lv_iload_n hx hb dX12_sumOf_24 rfl (lv_at hl 1 rfl) ?_
  refine W.widen (k := 0) (n := 0) (by decide) (by decide) ?_
  exact wk_iret () hx hb hr hlocks rfl hK hP hD hS [0] rfl rfl dX12_sumOf_25
theorem dX12_placeOf_0 : decode cX12_placeOf 0 = .ok (.iconst 0, 1) := by decide +kernel
theorem dX12_placeOf_1 : decode cX12_placeOf 1 = .ok (.istore_n 2, 1) := by decide +kernel
theorem dX12_placeOf_2 : decode cX12_placeOf 2 = .ok (.iload_n 2, 1) := by decide +kernel
theorem dX12_placeOf_3 : decode cX12_placeOf 3 = .ok (.aload_n 0, 1) := by decide +kernel
theorem dX12_placeOf_4 : decode cX12_placeOf 4 = .ok (.getfield 121, 3) := by decide +kernel
theorem dX12_placeOf_7 : decode cX12_placeOf 7 = .ok (.if_icmp .ge 19, 3) := by decide +kernel
theorem dX12_placeOf_26 : decode cX12_placeOf 26 = .ok (.iload_n 2, 1) := by decide +kernel
theorem dX12_placeOf_27 : decode cX12_placeOf 27 = .ok (.ireturn, 1) := by decide +kernel
set_option maxHeartbeats 4000000 in
set_option maxRecDepth 100000 in
theorem c_X12_placeOf (l : Launch) (D : va_G) (cy : ClassId) (mo mpage mkeys mvalues mheights mheats msecondKeys msecondValues msecondHeights msecondHeats msaved mbestHeights msights mby mkeptKeys mkeptValues mkeptHeights mkeptHeats mkeptKeys2 mkeptValues2 mkeptHeights2 mkeptHeats2 mkeptSights : Nat) (a : Int32) (hh : Int64) : wk_Ci l yX12_placeOf cX12_placeOf 3 (some .int) { frames := 0, cells := 0, slots := 0, locals := 0 } D cy [.ref mo, .int a] [(mo, .inr (12, [.ref mpage, .int 0, .int 0, .int 0, .int 0, .int 0, .int 0, .int 0, .ref mkeys, .ref mvalues, .ref mheights, .ref mheats, .int 0, .ref msecondKeys, .ref msecondValues, .ref msecondHeights, .ref msecondHeats, .int 0, .int 0, .int 0, .int 0, .ref msaved, .ref mbestHeights, .int 0, .ref msights, .ref mby, .int 0, .int (-1), .int 0, .int 0, .int 0, .int 0, .int 0, .int 0, .ref mkeptKeys, .ref mkeptValues, .ref mkeptHeights, .ref mkeptHeats, .ref mkeptKeys2, .ref mkeptValues2, .ref mkeptHeights2, .ref mkeptHeats2, .ref mkeptSights, .long hh]))] 0 0 (fun (r : Int32) (u : Unit) => r = 0) (fun u => [(mo, .inr (12, [.ref mpage, .int 0, .int 0, .int 0, .int 0, .int 0, .int 0, .int 0, .ref mkeys, .ref mvalues, .ref mheights, .ref mheats, .int 0, .ref msecondKeys, .ref msecondValues, .ref msecondHeights, .ref msecondHeats, .int 0, .int 0, .int 0, .int 0, .ref msaved, .ref mbestHeights, .int 0, .ref msights, .ref mby, .int 0, .int (-1), .int 0, .int 0, .int 0, .int 0, .int 0, .int 0, .ref mkeptKeys, .ref mkeptValues, .ref mkeptHeights, .ref mkeptHeats, .ref mkeptKeys2, .ref mkeptValues2, .ref mkeptHeights2, .ref mkeptHeats2, .ref mkeptSights, .long hh]))]) := by
  refine wk_mkCi (by decide) (Nat.le_of_ble_eq_true rfl) ?_
  intro p e s m below meth c A ls B hA hK hP hD hS hl
  obtain ⟨hx, hb, hr, hlocks, hml, hown, htb, hin⟩ := B
  have hl : lv_has ls 3 [(0, .ref mo), (1, .int a)] := hl
  refine lv_iconst (v := 0) hx hb dX12_placeOf_0 (by decide) ?_
  refine lv_istore_n (lv' := [(2, .int 0), (0, .ref mo), (1, .int a)]) hx hb dX12_placeOf_1 rfl hl (by decide) rfl (fun ls hl => ?_)
  refine lv_iload_n hx hb dX12_placeOf_2 rfl (lv_at hl 0 rfl) ?_
  refine lv_aload_n hx hb dX12_placeOf_3 rfl (lv_at hl 1 rfl) ?_
  refine va_get (D := D) (ci := 12) (v := .int 0) (C := RX12) (T := TX12) (N := 44) hx hb htb inX12 hown hK hP 0 rfl rfl 3 (by decide) (htb _ tw_766) (fun _ h9 => h9) rfl dX12_placeOf_4 ?_
  refine lv_icmp_ge (tgt := 26) hx hb dX12_placeOf_7 (by decide) (fun _ => ?_) (fun c_1 => absurd (by decide) c_1)
  refine lv_iload_n hx hb dX12_placeOf_26 rfl (lv_at hl 0 rfl) ?_
  refine W.widen (k := 0) (n := 0) (by decide) (by decide) ?_
  exact wk_iret () hx hb hr hlocks rfl hK hP hD hS [0] rfl rfl dX12_placeOf_27
theorem dX12_faultOf_0 : decode cX12_faultOf 0 = .ok (.iconst 0, 1) := by decide +kernel
theorem dX12_faultOf_1 : decode cX12_faultOf 1 = .ok (.istore_n 1, 1) := by decide +kernel
theorem dX12_faultOf_2 : decode cX12_faultOf 2 = .ok (.iload_n 1, 1) := by decide +kernel
theorem dX12_faultOf_3 : decode cX12_faultOf 3 = .ok (.aload_n 0, 1) := by decide +kernel
theorem dX12_faultOf_4 : decode cX12_faultOf 4 = .ok (.getfield 86, 3) := by decide +kernel
theorem dX12_faultOf_7 : decode cX12_faultOf 7 = .ok (.if_icmp .ge 17, 3) := by decide +kernel
theorem dX12_faultOf_24 : decode cX12_faultOf 24 = .ok (.iload_n 1, 1) := by decide +kernel
theorem dX12_faultOf_25 : decode cX12_faultOf 25 = .ok (.ireturn, 1) := by decide +kernel
set_option maxHeartbeats 4000000 in
set_option maxRecDepth 100000 in
theorem c_X12_faultOf (l : Launch) (D : va_G) (cy : ClassId) (mo mpage mkeys mvalues mheights mheats msecondKeys msecondValues msecondHeights msecondHeats msaved mbestHeights msights mby mkeptKeys mkeptValues mkeptHeights mkeptHeats mkeptKeys2 mkeptValues2 mkeptHeights2 mkeptHeats2 mkeptSights : Nat) (hh : Int64) : wk_Ci l yX12_faultOf cX12_faultOf 2 (some .int) { frames := 0, cells := 0, slots := 0, locals := 0 } D cy [.ref mo] [(mo, .inr (12, [.ref mpage, .int 0, .int 0, .int 0, .int 0, .int 0, .int 0, .int 0, .ref mkeys, .ref mvalues, .ref mheights, .ref mheats, .int 0, .ref msecondKeys, .ref msecondValues, .ref msecondHeights, .ref msecondHeats, .int 0, .int 0, .int 0, .int 0, .ref msaved, .ref mbestHeights, .int 0, .ref msights, .ref mby, .int 0, .int (-1), .int 0, .int 0, .int 0, .int 0, .int 0, .int 0, .ref mkeptKeys, .ref mkeptValues, .ref mkeptHeights, .ref mkeptHeats, .ref mkeptKeys2, .ref mkeptValues2, .ref mkeptHeights2, .ref mkeptHeats2, .ref mkeptSights, .long hh]))] 0 0 (fun (r : Int32) (u : Unit) => r = 0) (fun u => [(mo, .inr (12, [.ref mpage, .int 0, .int 0, .int 0, .int 0, .int 0, .int 0, .int 0, .ref mkeys, .ref mvalues, .ref mheights, .ref mheats, .int 0, .ref msecondKeys, .ref msecondValues, .ref msecondHeights, .ref msecondHeats, .int 0, .int 0, .int 0, .int 0, .ref msaved, .ref mbestHeights, .int 0, .ref msights, .ref mby, .int 0, .int (-1), .int 0, .int 0, .int 0, .int 0, .int 0, .int 0, .ref mkeptKeys, .ref mkeptValues, .ref mkeptHeights, .ref mkeptHeats, .ref mkeptKeys2, .ref mkeptValues2, .ref mkeptHeights2, .ref mkeptHeats2, .ref mkeptSights, .long hh]))]) := by
  refine wk_mkCi (by decide) (Nat.le_of_ble_eq_true rfl) ?_
  intro p e s m below meth c A ls B hA hK hP hD hS hl
  obtain ⟨hx, hb, hr, hlocks, hml, hown, htb, hin⟩ := B
  have hl : lv_has ls 2 [(0, .ref mo)] := hl
  refine lv_iconst (v := 0) hx hb dX12_faultOf_0 (by decide) ?_
  refine lv_istore_n (lv' := [(1, .int 0), (0, .ref mo)]) hx hb dX12_faultOf_1 rfl hl (by decide) rfl (fun ls hl => ?_)
  refine lv_iload_n hx hb dX12_faultOf_2 rfl (lv_at hl 0 rfl) ?_
  refine lv_aload_n hx hb dX12_faultOf_3 rfl (lv_at hl 1 rfl) ?_
  refine va_get (D := D) (ci := 12) (v := .int 0) (C := RX12) (T := TX12) (N := 44) hx hb htb inX12 hown hK hP 0 rfl rfl 1 (by decide) (htb _ tw_764) (fun _ h9 => h9) rfl dX12_faultOf_4 ?_
  refine lv_icmp_ge (tgt := 24) hx hb dX12_faultOf_7 (by decide) (fun _ => ?_) (fun c_1 => absurd (by decide) c_1)
  refine lv_iload_n hx hb dX12_faultOf_24 rfl (lv_at hl 0 rfl) ?_
  refine W.widen (k := 0) (n := 0) (by decide) (by decide) ?_
  exact wk_iret () hx hb hr hlocks rfl hK hP hD hS [0] rfl rfl dX12_faultOf_25
theorem dX12_isKey_0 : decode cX12_isKey 0 = .ok (.iload_n 0, 1) := by decide +kernel
theorem dX12_isKey_1 : decode cX12_isKey 1 = .ok (.i2l, 1) := by decide +kernel
theorem dX12_isKey_2 : decode cX12_isKey 2 = .ok (.lconst 0, 1) := by decide +kernel
theorem dX12_isKey_3 : decode cX12_isKey 3 = .ok (.ldc2_w 178, 3) := by decide +kernel
theorem dX12_isKey_6 : decode cX12_isKey 6 = .ok (.invokestatic 82, 3) := by decide +kernel
theorem dX12_isKey_9 : decode cX12_isKey 9 = .ok (.ireturn, 1) := by decide +kernel
set_option maxHeartbeats 4000000 in
set_option maxRecDepth 100000 in
theorem c_X12_isKey (l : Launch) (D : va_G) (cy : ClassId) (a : Int32) : wk_Ci l yX12_isKey cX12_isKey 1 (some .boolean) { frames := 1, cells := 0, slots := 0, locals := 25 } D cy [.int a] [] 0 0 (fun (r : Int32) (u : Unit) => r = if (0 ≤ a.toInt ∧ a.toInt ≤ 99) then 1 else 0) (fun u => []) := by
  refine wk_mkCi (by decide) (Nat.le_of_ble_eq_true rfl) ?_
  intro p e s m below meth c A ls B hA hK hP hD hS hl
  obtain ⟨hx, hb, hr, hlocks, hml, hown, htb, hin⟩ := B
  have hl : lv_has ls 1 [(0, .int a)] := hl
  refine lv_iload_n hx hb dX12_isKey_0 rfl (lv_at hl 0 rfl) ?_
  refine lv_i2l (v := a.toInt64) hx hb dX12_isKey_1 rfl ?_
  refine lv_lconst (v := 0) hx hb dX12_isKey_2 (by decide) ?_
  refine lv_ldc2 (v := 99) hx hb hown (htb _ tw_964) dX12_isKey_3 ?_
  refine wk_iS (As := [.long a.toInt64, .long 0, .long 99]) (rest := []) (wc := []) (wr := []) (n := 3) (R := _) ⟨hx, hb, hml, hown, htb⟩ (c_X12_in l D cy   a.toInt64 0 99) tw_903 tw_901 tw_902 tw_71 rfl rfl (by decide +kernel) ⟨Nat.le_of_ble_eq_true rfl, Nat.le_of_ble_eq_true rfl⟩ hK hP hD hS hA [] [] rfl rfl rfl rfl (by decide) rfl hl.1 rfl (Nat.le_of_ble_eq_true rfl) dX12_isKey_6 ⟨Nat.le_of_ble_eq_true rfl, Nat.le_of_ble_eq_true rfl⟩ (fun r_1 u_2 H locs hw_3 hP hD hS => ?_)
  refine W.widen (k := 0) (n := 0) (by decide) (by decide) ?_
  have hw_3 : r_1 = wk_in a.toInt64 0 99 := hw_3
  subst hw_3
  have hP : va_P D classes [] H := hP
  have hD : va_D A [] := hD
  refine W.widen (k := 0) (n := 0) (by decide) (by decide) ?_
  exact wk_zret () hx hb hr hlocks (wk_in_n _ _ _) (by simp only [wk_in, wk_64]; rfl) hK hP hD hS [] rfl rfl dX12_isKey_9
theorem dX12_isNumber_0 : decode cX12_isNumber 0 = .ok (.iload_n 1, 1) := by decide +kernel
theorem dX12_isNumber_1 : decode cX12_isNumber 1 = .ok (.i2l, 1) := by decide +kernel
theorem dX12_isNumber_2 : decode cX12_isNumber 2 = .ok (.lconst 0, 1) := by decide +kernel
theorem dX12_isNumber_3 : decode cX12_isNumber 3 = .ok (.aload_n 0, 1) := by decide +kernel
theorem dX12_isNumber_4 : decode cX12_isNumber 4 = .ok (.getfield 121, 3) := by decide +kernel
theorem dX12_isNumber_7 : decode cX12_isNumber 7 = .ok (.iconst 1, 1) := by decide +kernel
theorem dX12_isNumber_8 : decode cX12_isNumber 8 = .ok (.isub, 1) := by decide +kernel
theorem dX12_isNumber_9 : decode cX12_isNumber 9 = .ok (.i2l, 1) := by decide +kernel
theorem dX12_isNumber_10 : decode cX12_isNumber 10 = .ok (.invokestatic 82, 3) := by decide +kernel
theorem dX12_isNumber_13 : decode cX12_isNumber 13 = .ok (.ireturn, 1) := by decide +kernel
set_option maxHeartbeats 4000000 in
set_option maxRecDepth 100000 in
theorem c_X12_isNumber (l : Launch) (D : va_G) (cy : ClassId) (mo mpage mkeys mvalues mheights mheats msecondKeys msecondValues msecondHeights msecondHeats msaved mbestHeights msights mby mkeptKeys mkeptValues mkeptHeights mkeptHeats mkeptKeys2 mkeptValues2 mkeptHeights2 mkeptHeats2 mkeptSights : Nat) (a : Int32) (hh : Int64) : wk_Ci l yX12_isNumber cX12_isNumber 2 (some .boolean) { frames := 1, cells := 0, slots := 0, locals := 25 } D cy [.ref mo, .int a] [(mo, .inr (12, [.ref mpage, .int 0, .int 0, .int 0, .int 0, .int 0, .int 0, .int 0, .ref mkeys, .ref mvalues, .ref mheights, .ref mheats, .int 0, .ref msecondKeys, .ref msecondValues, .ref msecondHeights, .ref msecondHeats, .int 0, .int 0, .int 0, .int 0, .ref msaved, .ref mbestHeights, .int 0, .ref msights, .ref mby, .int 0, .int (-1), .int 0, .int 0, .int 0, .int 0, .int 0, .int 0, .ref mkeptKeys, .ref mkeptValues, .ref mkeptHeights, .ref mkeptHeats, .ref mkeptKeys2, .ref mkeptValues2, .ref mkeptHeights2, .ref mkeptHeats2, .ref mkeptSights, .long hh]))] 0 0 (fun (r : Int32) (u : Unit) => r = 0) (fun u => [(mo, .inr (12, [.ref mpage, .int 0, .int 0, .int 0, .int 0, .int 0, .int 0, .int 0, .ref mkeys, .ref mvalues, .ref mheights, .ref mheats, .int 0, .ref msecondKeys, .ref msecondValues, .ref msecondHeights, .ref msecondHeats, .int 0, .int 0, .int 0, .int 0, .ref msaved, .ref mbestHeights, .int 0, .ref msights, .ref mby, .int 0, .int (-1), .int 0, .int 0, .int 0, .int 0, .int 0, .int 0, .ref mkeptKeys, .ref mkeptValues, .ref mkeptHeights, .ref mkeptHeats, .ref mkeptKeys2, .ref mkeptValues2, .ref mkeptHeights2, .ref mkeptHeats2, .ref mkeptSights, .long hh]))]) := by
  refine wk_mkCi (by decide) (Nat.le_of_ble_eq_true rfl) ?_
  intro p e s m below meth c A ls B hA hK hP hD hS hl
  obtain ⟨hx, hb, hr, hlocks, hml, hown, htb, hin⟩ := B
  have hl : lv_has ls 2 [(0, .ref mo), (1, .int a)] := hl
  refine lv_iload_n hx hb dX12_isNumber_0 rfl (lv_at hl 1 rfl) ?_
  refine lv_i2l (v := a.toInt64) hx hb dX12_isNumber_1 rfl ?_
  refine lv_lconst (v := 0) hx hb dX12_isNumber_2 (by decide) ?_
  refine lv_aload_n hx hb dX12_isNumber_3 rfl (lv_at hl 0 rfl) ?_
  refine va_get (D := D) (ci := 12) (v := .int 0) (C := RX12) (T := TX12) (N := 44) hx hb htb inX12 hown hK hP 0 rfl rfl 3 (by decide) (htb _ tw_766) (fun _ h9 => h9) rfl dX12_isNumber_4 ?_
  refine lv_iconst (v := 1) hx hb dX12_isNumber_7 (by decide) ?_
  refine lv_isub hx hb dX12_isNumber_8 ?_
  refine wk_toi (show ((0 - 1) : Int32) = (-1) by decide) ?_
  refine lv_i2l (v := (-1)) hx hb dX12_isNumber_9 (by decide) ?_
  refine wk_iS (As := [.long a.toInt64, .long 0, .long (-1)]) (rest := []) (wc := []) (wr := [(mo, .inr (12, [.ref mpage, .int 0, .int 0, .int 0, .int 0, .int 0, .int 0, .int 0, .ref mkeys, .ref mvalues, .ref mheights, .ref mheats, .int 0, .ref msecondKeys, .ref msecondValues, .ref msecondHeights, .ref msecondHeats, .int 0, .int 0, .int 0, .int 0, .ref msaved, .ref mbestHeights, .int 0, .ref msights, .ref mby, .int 0, .int (-1), .int 0, .int 0, .int 0, .int 0, .int 0, .int 0, .ref mkeptKeys, .ref mkeptValues, .ref mkeptHeights, .ref mkeptHeats, .ref mkeptKeys2, .ref mkeptValues2, .ref mkeptHeights2, .ref mkeptHeats2, .ref mkeptSights, .long hh]))]) (n := 3) (R := _) ⟨hx, hb, hml, hown, htb⟩ (c_X12_in l D cy   a.toInt64 0 (-1)) tw_903 tw_901 tw_902 tw_71 rfl rfl (by decide +kernel) ⟨Nat.le_of_ble_eq_true rfl, Nat.le_of_ble_eq_true rfl⟩ hK hP hD hS hA [] [0] rfl rfl rfl rfl (by decide) rfl hl.1 rfl (Nat.le_of_ble_eq_true rfl) dX12_isNumber_10 ⟨Nat.le_of_ble_eq_true rfl, Nat.le_of_ble_eq_true rfl⟩ (fun r_1 u_2 H locs hw_3 hP hD hS => ?_)
  refine W.widen (k := 0) (n := 0) (by decide) (by decide) ?_
  have hw_3 : r_1 = wk_in a.toInt64 0 (-1) := hw_3
  subst hw_3
  have hP : va_P D classes [(mo, .inr (12, [.ref mpage, .int 0, .int 0, .int 0, .int 0, .int 0, .int 0, .int 0, .ref mkeys, .ref mvalues, .ref mheights, .ref mheats, .int 0, .ref msecondKeys, .ref msecondValues, .ref msecondHeights, .ref msecondHeats, .int 0, .int 0, .int 0, .int 0, .ref msaved, .ref mbestHeights, .int 0, .ref msights, .ref mby, .int 0, .int (-1), .int 0, .int 0, .int 0, .int 0, .int 0, .int 0, .ref mkeptKeys, .ref mkeptValues, .ref mkeptHeights, .ref mkeptHeats, .ref mkeptKeys2, .ref mkeptValues2, .ref mkeptHeights2, .ref mkeptHeats2, .ref mkeptSights, .long hh]))] H := hP
  have hD : va_D A [(mo, .inr (12, [.ref mpage, .int 0, .int 0, .int 0, .int 0, .int 0, .int 0, .int 0, .ref mkeys, .ref mvalues, .ref mheights, .ref mheats, .int 0, .ref msecondKeys, .ref msecondValues, .ref msecondHeights, .ref msecondHeats, .int 0, .int 0, .int 0, .int 0, .ref msaved, .ref mbestHeights, .int 0, .ref msights, .ref mby, .int 0, .int (-1), .int 0, .int 0, .int 0, .int 0, .int 0, .int 0, .ref mkeptKeys, .ref mkeptValues, .ref mkeptHeights, .ref mkeptHeats, .ref mkeptKeys2, .ref mkeptValues2, .ref mkeptHeights2, .ref mkeptHeats2, .ref mkeptSights, .long hh]))] := hD
  refine W.widen (k := 0) (n := 0) (by decide) (by decide) ?_
  exact wk_zret () hx hb hr hlocks (wk_in_n _ _ _) (if_neg (by simp only [wk_64]; show ¬ ((0:Int) ≤ a.toInt ∧ a.toInt ≤ -1); omega)) hK hP hD hS [0] rfl rfl dX12_isNumber_13
theorem dX12_countOf_0 : decode cX12_countOf 0 = .ok (.iload_n 1, 1) := by decide +kernel
theorem dX12_countOf_1 : decode cX12_countOf 1 = .ok (.tableswitch 140 0 12 #[67, 72, 77, 82, 91, 100, 105, 110, 115, 120, 125, 130, 135], 67) := by decide +kernel
theorem dX12_countOf_68 : decode cX12_countOf 68 = .ok (.aload_n 0, 1) := by decide +kernel
theorem dX12_countOf_69 : decode cX12_countOf 69 = .ok (.getfield 121, 3) := by decide +kernel
theorem dX12_countOf_72 : decode cX12_countOf 72 = .ok (.ireturn, 1) := by decide +kernel
theorem dX12_countOf_73 : decode cX12_countOf 73 = .ok (.aload_n 0, 1) := by decide +kernel
theorem dX12_countOf_74 : decode cX12_countOf 74 = .ok (.invokevirtual 167, 3) := by decide +kernel
theorem dX12_countOf_77 : decode cX12_countOf 77 = .ok (.ireturn, 1) := by decide +kernel
theorem dX12_countOf_78 : decode cX12_countOf 78 = .ok (.aload_n 0, 1) := by decide +kernel
theorem dX12_countOf_79 : decode cX12_countOf 79 = .ok (.invokevirtual 266, 3) := by decide +kernel
theorem dX12_countOf_82 : decode cX12_countOf 82 = .ok (.ireturn, 1) := by decide +kernel
theorem dX12_countOf_83 : decode cX12_countOf 83 = .ok (.aload_n 0, 1) := by decide +kernel
theorem dX12_countOf_84 : decode cX12_countOf 84 = .ok (.aload_n 0, 1) := by decide +kernel
theorem dX12_countOf_85 : decode cX12_countOf 85 = .ok (.getfield 16, 3) := by decide +kernel
theorem dX12_countOf_88 : decode cX12_countOf 88 = .ok (.invokevirtual 322, 3) := by decide +kernel
theorem dX12_countOf_91 : decode cX12_countOf 91 = .ok (.ireturn, 1) := by decide +kernel
theorem dX12_countOf_92 : decode cX12_countOf 92 = .ok (.aload_n 0, 1) := by decide +kernel
theorem dX12_countOf_93 : decode cX12_countOf 93 = .ok (.aload_n 0, 1) := by decide +kernel
theorem dX12_countOf_94 : decode cX12_countOf 94 = .ok (.getfield 22, 3) := by decide +kernel
theorem dX12_countOf_97 : decode cX12_countOf 97 = .ok (.invokevirtual 322, 3) := by decide +kernel
theorem dX12_countOf_100 : decode cX12_countOf 100 = .ok (.ireturn, 1) := by decide +kernel
theorem dX12_countOf_101 : decode cX12_countOf 101 = .ok (.aload_n 0, 1) := by decide +kernel
theorem dX12_countOf_102 : decode cX12_countOf 102 = .ok (.getfield 127, 3) := by decide +kernel
theorem dX12_countOf_105 : decode cX12_countOf 105 = .ok (.ireturn, 1) := by decide +kernel
theorem dX12_countOf_106 : decode cX12_countOf 106 = .ok (.aload_n 0, 1) := by decide +kernel
theorem dX12_countOf_107 : decode cX12_countOf 107 = .ok (.getfield 130, 3) := by decide +kernel
theorem dX12_countOf_110 : decode cX12_countOf 110 = .ok (.ireturn, 1) := by decide +kernel
theorem dX12_countOf_111 : decode cX12_countOf 111 = .ok (.aload_n 0, 1) := by decide +kernel
theorem dX12_countOf_112 : decode cX12_countOf 112 = .ok (.getfield 133, 3) := by decide +kernel
theorem dX12_countOf_115 : decode cX12_countOf 115 = .ok (.ireturn, 1) := by decide +kernel
theorem dX12_countOf_116 : decode cX12_countOf 116 = .ok (.aload_n 0, 1) := by decide +kernel
theorem dX12_countOf_117 : decode cX12_countOf 117 = .ok (.getfield 136, 3) := by decide +kernel
theorem dX12_countOf_120 : decode cX12_countOf 120 = .ok (.ireturn, 1) := by decide +kernel
theorem dX12_countOf_121 : decode cX12_countOf 121 = .ok (.aload_n 0, 1) := by decide +kernel
theorem dX12_countOf_122 : decode cX12_countOf 122 = .ok (.getfield 139, 3) := by decide +kernel
theorem dX12_countOf_125 : decode cX12_countOf 125 = .ok (.ireturn, 1) := by decide +kernel
theorem dX12_countOf_126 : decode cX12_countOf 126 = .ok (.aload_n 0, 1) := by decide +kernel
theorem dX12_countOf_127 : decode cX12_countOf 127 = .ok (.getfield 86, 3) := by decide +kernel
theorem dX12_countOf_130 : decode cX12_countOf 130 = .ok (.ireturn, 1) := by decide +kernel
theorem dX12_countOf_131 : decode cX12_countOf 131 = .ok (.aload_n 0, 1) := by decide +kernel
theorem dX12_countOf_132 : decode cX12_countOf 132 = .ok (.getfield 142, 3) := by decide +kernel
theorem dX12_countOf_135 : decode cX12_countOf 135 = .ok (.ireturn, 1) := by decide +kernel
theorem dX12_countOf_136 : decode cX12_countOf 136 = .ok (.aload_n 0, 1) := by decide +kernel
theorem dX12_countOf_137 : decode cX12_countOf 137 = .ok (.getfield 273, 3) := by decide +kernel
theorem dX12_countOf_140 : decode cX12_countOf 140 = .ok (.ireturn, 1) := by decide +kernel
theorem dX12_countOf_141 : decode cX12_countOf 141 = .ok (.bipush (-102), 2) := by decide +kernel
theorem dX12_countOf_143 : decode cX12_countOf 143 = .ok (.ireturn, 1) := by decide +kernel
set_option maxHeartbeats 4000000 in
set_option maxRecDepth 100000 in
theorem c_X12_countOf (l : Launch) (D : va_G) (cy : ClassId) (mo mpage mkeys mvalues mheights mheats msecondKeys msecondValues msecondHeights msecondHeats msaved mbestHeights msights mby mkeptKeys mkeptValues mkeptHeights mkeptHeats mkeptKeys2 mkeptValues2 mkeptHeights2 mkeptHeats2 mkeptSights : Nat) (a : Int32) (hh : Int64) : wk_Ci l yX12_countOf cX12_countOf 2 (some .int) { frames := 1, cells := 0, slots := 0, locals := 23 } D cy [.ref mo, .int a] [(mo, .inr (12, [.ref mpage, .int 0, .int 0, .int 0, .int 0, .int 0, .int 0, .int 0, .ref mkeys, .ref mvalues, .ref mheights, .ref mheats, .int 0, .ref msecondKeys, .ref msecondValues, .ref msecondHeights, .ref msecondHeats, .int 0, .int 0, .int 0, .int 0, .ref msaved, .ref mbestHeights, .int 0, .ref msights, .ref mby, .int 0, .int (-1), .int 0, .int 0, .int 0, .int 0, .int 0, .int 0, .ref mkeptKeys, .ref mkeptValues, .ref mkeptHeights, .ref mkeptHeats, .ref mkeptKeys2, .ref mkeptValues2, .ref mkeptHeights2, .ref mkeptHeats2, .ref mkeptSights, .long hh]))] 0 0 (fun (r : Int32) (u : Unit) => r = if (0 ≤ (a : Int32).toInt ∧ (a : Int32).toInt ≤ 12) then 0 else (-102)) (fun u => [(mo, .inr (12, [.ref mpage, .int 0, .int 0, .int 0, .int 0, .int 0, .int 0, .int 0, .ref mkeys, .ref mvalues, .ref mheights, .ref mheats, .int 0, .ref msecondKeys, .ref msecondValues, .ref msecondHeights, .ref msecondHeats, .int 0, .int 0, .int 0, .int 0, .ref msaved, .ref mbestHeights, .int 0, .ref msights, .ref mby, .int 0, .int (-1), .int 0, .int 0, .int 0, .int 0, .int 0, .int 0, .ref mkeptKeys, .ref mkeptValues, .ref mkeptHeights, .ref mkeptHeats, .ref mkeptKeys2, .ref mkeptValues2, .ref mkeptHeights2, .ref mkeptHeats2, .ref mkeptSights, .long hh]))]) := by
  refine wk_mkCi (by decide) (Nat.le_of_ble_eq_true rfl) ?_
  intro p e s m below meth c A ls B hA hK hP hD hS hl
  obtain ⟨hx, hb, hr, hlocks, hml, hown, htb, hin⟩ := B
  have hl : lv_has ls 2 [(0, .ref mo), (1, .int a)] := hl
  refine lv_iload_n hx hb dX12_countOf_0 rfl (lv_at hl 1 rfl) ?_
  rcases wk_sw12 a with c_1 | rfl | rfl | rfl | rfl | rfl | rfl | rfl | rfl | rfl | rfl | rfl | rfl | rfl
  · have k_1 := c_1
    refine lv_tableOut (tgt := 141) hx hb dX12_countOf_1 c_1 (by decide) ?_
    refine lv_bipush (v := (-102)) hx hb dX12_countOf_141 (by decide) ?_
    refine W.widen (k := 0) (n := 0) (by decide) (by decide) ?_
    exact wk_iret () hx hb hr hlocks (if_neg (by omega)).symm hK hP hD hS [0] rfl rfl dX12_countOf_143
  · refine lv_tableIn (off := 67) (tgt := 68) hx hb dX12_countOf_1 (by decide) (by decide) (by decide) (by decide) ?_
    have hl : lv_has ls 2 [(0, .ref mo), (1, .int 0)] := hl
    refine lv_aload_n hx hb dX12_countOf_68 rfl (lv_at hl 0 rfl) ?_
    refine va_get (D := D) (ci := 12) (v := .int 0) (C := RX12) (T := TX12) (N := 44) hx hb htb inX12 hown hK hP 0 rfl rfl 3 (by decide) (htb _ tw_766) (fun _ h9 => h9) rfl dX12_countOf_69 ?_
    refine W.widen (k := 0) (n := 0) (by decide) (by decide) ?_
    exact wk_iret () hx hb hr hlocks (by decide) hK hP hD hS [0] rfl rfl dX12_countOf_72
  · refine lv_tableIn (off := 72) (tgt := 73) hx hb dX12_countOf_1 (by decide) (by decide) (by decide) (by decide) ?_
    have hl : lv_has ls 2 [(0, .ref mo), (1, .int 1)] := hl
    refine lv_aload_n hx hb dX12_countOf_73 rfl (lv_at hl 0 rfl) ?_
    refine wk_iV (As := []) (rest := []) (wc := [(mo, .inr (12, [.ref mpage, .int 0, .int 0, .int 0, .int 0, .int 0, .int 0, .int 0, .ref mkeys, .ref mvalues, .ref mheights, .ref mheats, .int 0, .ref msecondKeys, .ref msecondValues, .ref msecondHeights, .ref msecondHeats, .int 0, .int 0, .int 0, .int 0, .ref msaved, .ref mbestHeights, .int 0, .ref msights, .ref mby, .int 0, .int (-1), .int 0, .int 0, .int 0, .int 0, .int 0, .int 0, .ref mkeptKeys, .ref mkeptValues, .ref mkeptHeights, .ref mkeptHeats, .ref mkeptKeys2, .ref mkeptValues2, .ref mkeptHeights2, .ref mkeptHeats2, .ref mkeptSights, .long hh]))]) (wr := []) (n := 0) (R := _) ⟨hx, hb, hml, hown, htb⟩ (c_X12_lanes l D cy mo mpage mkeys mvalues mheights mheats msecondKeys msecondValues msecondHeights msecondHeats msaved mbestHeights msights mby mkeptKeys mkeptValues mkeptHeights mkeptHeats mkeptKeys2 mkeptValues2 mkeptHeights2 mkeptHeats2 mkeptSights  hh) tw_977 tw_974 tw_976 tw_31 tw_71 rfl rfl (by decide +kernel) ⟨Nat.le_of_ble_eq_true rfl, Nat.le_of_ble_eq_true rfl⟩ hK hP hD hS hA [0] [] rfl rfl rfl rfl (by decide) 0 (ci := 12) rfl rfl rfl hl.1 rfl (Nat.le_of_ble_eq_true rfl) dX12_countOf_74 ⟨Nat.le_of_ble_eq_true rfl, Nat.le_of_ble_eq_true rfl⟩ (fun r_2 u_3 H locs hw_4 hP hD hS => ?_)
    refine W.widen (k := 0) (n := 0) (by decide) (by decide) ?_
    have hw_4 : r_2 = 0 := hw_4
    subst hw_4
    have hP : va_P D classes [(mo, .inr (12, [.ref mpage, .int 0, .int 0, .int 0, .int 0, .int 0, .int 0, .int 0, .ref mkeys, .ref mvalues, .ref mheights, .ref mheats, .int 0, .ref msecondKeys, .ref msecondValues, .ref msecondHeights, .ref msecondHeats, .int 0, .int 0, .int 0, .int 0, .ref msaved, .ref mbestHeights, .int 0, .ref msights, .ref mby, .int 0, .int (-1), .int 0, .int 0, .int 0, .int 0, .int 0, .int 0, .ref mkeptKeys, .ref mkeptValues, .ref mkeptHeights, .ref mkeptHeats, .ref mkeptKeys2, .ref mkeptValues2, .ref mkeptHeights2, .ref mkeptHeats2, .ref mkeptSights, .long hh]))] H := hP
    have hD : va_D A [(mo, .inr (12, [.ref mpage, .int 0, .int 0, .int 0, .int 0, .int 0, .int 0, .int 0, .ref mkeys, .ref mvalues, .ref mheights, .ref mheats, .int 0, .ref msecondKeys, .ref msecondValues, .ref msecondHeights, .ref msecondHeats, .int 0, .int 0, .int 0, .int 0, .ref msaved, .ref mbestHeights, .int 0, .ref msights, .ref mby, .int 0, .int (-1), .int 0, .int 0, .int 0, .int 0, .int 0, .int 0, .ref mkeptKeys, .ref mkeptValues, .ref mkeptHeights, .ref mkeptHeats, .ref mkeptKeys2, .ref mkeptValues2, .ref mkeptHeights2, .ref mkeptHeats2, .ref mkeptSights, .long hh]))] := hD
    refine W.widen (k := 0) (n := 0) (by decide) (by decide) ?_
    exact wk_iret () hx hb hr hlocks (by decide) hK hP hD hS [0] rfl rfl dX12_countOf_77
  · refine lv_tableIn (off := 77) (tgt := 78) hx hb dX12_countOf_1 (by decide) (by decide) (by decide) (by decide) ?_
    have hl : lv_has ls 2 [(0, .ref mo), (1, .int 2)] := hl
    refine lv_aload_n hx hb dX12_countOf_78 rfl (lv_at hl 0 rfl) ?_
    refine wk_iV (As := []) (rest := []) (wc := [(mo, .inr (12, [.ref mpage, .int 0, .int 0, .int 0, .int 0, .int 0, .int 0, .int 0, .ref mkeys, .ref mvalues, .ref mheights, .ref mheats, .int 0, .ref msecondKeys, .ref msecondValues, .ref msecondHeights, .ref msecondHeats, .int 0, .int 0, .int 0, .int 0, .ref msaved, .ref mbestHeights, .int 0, .ref msights, .ref mby, .int 0, .int (-1), .int 0, .int 0, .int 0, .int 0, .int 0, .int 0, .ref mkeptKeys, .ref mkeptValues, .ref mkeptHeights, .ref mkeptHeats, .ref mkeptKeys2, .ref mkeptValues2, .ref mkeptHeights2, .ref mkeptHeats2, .ref mkeptSights, .long hh]))]) (wr := []) (n := 0) (R := _) ⟨hx, hb, hml, hown, htb⟩ (c_X12_linksOf l D cy mo mpage mkeys mvalues mheights mheats msecondKeys msecondValues msecondHeights msecondHeats msaved mbestHeights msights mby mkeptKeys mkeptValues mkeptHeights mkeptHeats mkeptKeys2 mkeptValues2 mkeptHeights2 mkeptHeats2 mkeptSights  hh) tw_1145 tw_1142 tw_1144 tw_55 tw_71 rfl rfl (by decide +kernel) ⟨Nat.le_of_ble_eq_true rfl, Nat.le_of_ble_eq_true rfl⟩ hK hP hD hS hA [0] [] rfl rfl rfl rfl (by decide) 0 (ci := 12) rfl rfl rfl hl.1 rfl (Nat.le_of_ble_eq_true rfl) dX12_countOf_79 ⟨Nat.le_of_ble_eq_true rfl, Nat.le_of_ble_eq_true rfl⟩ (fun r_5 u_6 H locs hw_7 hP hD hS => ?_)
    refine W.widen (k := 0) (n := 0) (by decide) (by decide) ?_
    have hw_7 : r_5 = 0 := hw_7
    subst hw_7
    have hP : va_P D classes [(mo, .inr (12, [.ref mpage, .int 0, .int 0, .int 0, .int 0, .int 0, .int 0, .int 0, .ref mkeys, .ref mvalues, .ref mheights, .ref mheats, .int 0, .ref msecondKeys, .ref msecondValues, .ref msecondHeights, .ref msecondHeats, .int 0, .int 0, .int 0, .int 0, .ref msaved, .ref mbestHeights, .int 0, .ref msights, .ref mby, .int 0, .int (-1), .int 0, .int 0, .int 0, .int 0, .int 0, .int 0, .ref mkeptKeys, .ref mkeptValues, .ref mkeptHeights, .ref mkeptHeats, .ref mkeptKeys2, .ref mkeptValues2, .ref mkeptHeights2, .ref mkeptHeats2, .ref mkeptSights, .long hh]))] H := hP
    have hD : va_D A [(mo, .inr (12, [.ref mpage, .int 0, .int 0, .int 0, .int 0, .int 0, .int 0, .int 0, .ref mkeys, .ref mvalues, .ref mheights, .ref mheats, .int 0, .ref msecondKeys, .ref msecondValues, .ref msecondHeights, .ref msecondHeats, .int 0, .int 0, .int 0, .int 0, .ref msaved, .ref mbestHeights, .int 0, .ref msights, .ref mby, .int 0, .int (-1), .int 0, .int 0, .int 0, .int 0, .int 0, .int 0, .ref mkeptKeys, .ref mkeptValues, .ref mkeptHeights, .ref mkeptHeats, .ref mkeptKeys2, .ref mkeptValues2, .ref mkeptHeights2, .ref mkeptHeats2, .ref mkeptSights, .long hh]))] := hD
    refine W.widen (k := 0) (n := 0) (by decide) (by decide) ?_
    exact wk_iret () hx hb hr hlocks (by decide) hK hP hD hS [0] rfl rfl dX12_countOf_82
  · refine lv_tableIn (off := 82) (tgt := 83) hx hb dX12_countOf_1 (by decide) (by decide) (by decide) (by decide) ?_
    have hl : lv_has ls 2 [(0, .ref mo), (1, .int 3)] := hl
    refine lv_aload_n hx hb dX12_countOf_83 rfl (lv_at hl 0 rfl) ?_
    refine lv_aload_n hx hb dX12_countOf_84 rfl (lv_at hl 0 rfl) ?_
    refine va_get (D := D) (ci := 12) (v := .ref mvalues) (C := RX12) (T := TX12) (N := 44) hx hb htb inX12 hown hK hP 0 rfl rfl 9 (by decide) (htb _ tw_772) (fun _ h9 => h9) rfl dX12_countOf_85 ?_
    refine wk_iV (As := [.ref mvalues]) (rest := []) (wc := [(mo, .inr (12, [.ref mpage, .int 0, .int 0, .int 0, .int 0, .int 0, .int 0, .int 0, .ref mkeys, .ref mvalues, .ref mheights, .ref mheats, .int 0, .ref msecondKeys, .ref msecondValues, .ref msecondHeights, .ref msecondHeats, .int 0, .int 0, .int 0, .int 0, .ref msaved, .ref mbestHeights, .int 0, .ref msights, .ref mby, .int 0, .int (-1), .int 0, .int 0, .int 0, .int 0, .int 0, .int 0, .ref mkeptKeys, .ref mkeptValues, .ref mkeptHeights, .ref mkeptHeats, .ref mkeptKeys2, .ref mkeptValues2, .ref mkeptHeights2, .ref mkeptHeats2, .ref mkeptSights, .long hh]))]) (wr := []) (n := 1) (R := _) ⟨hx, hb, hml, hown, htb⟩ (c_X12_sumOf l D cy mo mpage mkeys mvalues mheights mheats msecondKeys msecondValues msecondHeights msecondHeats msaved mbestHeights msights mby mkeptKeys mkeptValues mkeptHeights mkeptHeats mkeptKeys2 mkeptValues2 mkeptHeights2 mkeptHeats2 mkeptSights mvalues  hh) tw_1194 tw_1191 tw_1193 tw_59 tw_71 rfl rfl (by decide +kernel) ⟨Nat.le_of_ble_eq_true rfl, Nat.le_of_ble_eq_true rfl⟩ hK hP hD hS hA [0] [] rfl rfl rfl rfl (by decide) 0 (ci := 12) rfl rfl rfl hl.1 rfl (Nat.le_of_ble_eq_true rfl) dX12_countOf_88 ⟨Nat.le_of_ble_eq_true rfl, Nat.le_of_ble_eq_true rfl⟩ (fun r_8 u_9 H locs hw_10 hP hD hS => ?_)
    refine W.widen (k := 0) (n := 0) (by decide) (by decide) ?_
    have hw_10 : r_8 = 0 := hw_10
    subst hw_10
    have hP : va_P D classes [(mo, .inr (12, [.ref mpage, .int 0, .int 0, .int 0, .int 0, .int 0, .int 0, .int 0, .ref mkeys, .ref mvalues, .ref mheights, .ref mheats, .int 0, .ref msecondKeys, .ref msecondValues, .ref msecondHeights, .ref msecondHeats, .int 0, .int 0, .int 0, .int 0, .ref msaved, .ref mbestHeights, .int 0, .ref msights, .ref mby, .int 0, .int (-1), .int 0, .int 0, .int 0, .int 0, .int 0, .int 0, .ref mkeptKeys, .ref mkeptValues, .ref mkeptHeights, .ref mkeptHeats, .ref mkeptKeys2, .ref mkeptValues2, .ref mkeptHeights2, .ref mkeptHeats2, .ref mkeptSights, .long hh]))] H := hP
    have hD : va_D A [(mo, .inr (12, [.ref mpage, .int 0, .int 0, .int 0, .int 0, .int 0, .int 0, .int 0, .ref mkeys, .ref mvalues, .ref mheights, .ref mheats, .int 0, .ref msecondKeys, .ref msecondValues, .ref msecondHeights, .ref msecondHeats, .int 0, .int 0, .int 0, .int 0, .ref msaved, .ref mbestHeights, .int 0, .ref msights, .ref mby, .int 0, .int (-1), .int 0, .int 0, .int 0, .int 0, .int 0, .int 0, .ref mkeptKeys, .ref mkeptValues, .ref mkeptHeights, .ref mkeptHeats, .ref mkeptKeys2, .ref mkeptValues2, .ref mkeptHeights2, .ref mkeptHeats2, .ref mkeptSights, .long hh]))] := hD
    refine W.widen (k := 0) (n := 0) (by decide) (by decide) ?_
    exact wk_iret () hx hb hr hlocks (by decide) hK hP hD hS [0] rfl rfl dX12_countOf_91
  · refine lv_tableIn (off := 91) (tgt := 92) hx hb dX12_countOf_1 (by decide) (by decide) (by decide) (by decide) ?_
    have hl : lv_has ls 2 [(0, .ref mo), (1, .int 4)] := hl
    refine lv_aload_n hx hb dX12_countOf_92 rfl (lv_at hl 0 rfl) ?_
    refine lv_aload_n hx hb dX12_countOf_93 rfl (lv_at hl 0 rfl) ?_
    refine va_get (D := D) (ci := 12) (v := .ref mheats) (C := RX12) (T := TX12) (N := 44) hx hb htb inX12 hown hK hP 0 rfl rfl 11 (by decide) (htb _ tw_774) (fun _ h9 => h9) rfl dX12_countOf_94 ?_
    refine wk_iV (As := [.ref mheats]) (rest := []) (wc := [(mo, .inr (12, [.ref mpage, .int 0, .int 0, .int 0, .int 0, .int 0, .int 0, .int 0, .ref mkeys, .ref mvalues, .ref mheights, .ref mheats, .int 0, .ref msecondKeys, .ref msecondValues, .ref msecondHeights, .ref msecondHeats, .int 0, .int 0, .int 0, .int 0, .ref msaved, .ref mbestHeights, .int 0, .ref msights, .ref mby, .int 0, .int (-1), .int 0, .int 0, .int 0, .int 0, .int 0, .int 0, .ref mkeptKeys, .ref mkeptValues, .ref mkeptHeights, .ref mkeptHeats, .ref mkeptKeys2, .ref mkeptValues2, .ref mkeptHeights2, .ref mkeptHeats2, .ref mkeptSights, .long hh]))]) (wr := []) (n := 1) (R := _) ⟨hx, hb, hml, hown, htb⟩ (c_X12_sumOf l D cy mo mpage mkeys mvalues mheights mheats msecondKeys msecondValues msecondHeights msecondHeats msaved mbestHeights msights mby mkeptKeys mkeptValues mkeptHeights mkeptHeats mkeptKeys2 mkeptValues2 mkeptHeights2 mkeptHeats2 mkeptSights mheats  hh) tw_1194 tw_1191 tw_1193 tw_59 tw_71 rfl rfl (by decide +kernel) ⟨Nat.le_of_ble_eq_true rfl, Nat.le_of_ble_eq_true rfl⟩ hK hP hD hS hA [0] [] rfl rfl rfl rfl (by decide) 0 (ci := 12) rfl rfl rfl hl.1 rfl (Nat.le_of_ble_eq_true rfl) dX12_countOf_97 ⟨Nat.le_of_ble_eq_true rfl, Nat.le_of_ble_eq_true rfl⟩ (fun r_11 u_12 H locs hw_13 hP hD hS => ?_)
    refine W.widen (k := 0) (n := 0) (by decide) (by decide) ?_
    have hw_13 : r_11 = 0 := hw_13
    subst hw_13
    have hP : va_P D classes [(mo, .inr (12, [.ref mpage, .int 0, .int 0, .int 0, .int 0, .int 0, .int 0, .int 0, .ref mkeys, .ref mvalues, .ref mheights, .ref mheats, .int 0, .ref msecondKeys, .ref msecondValues, .ref msecondHeights, .ref msecondHeats, .int 0, .int 0, .int 0, .int 0, .ref msaved, .ref mbestHeights, .int 0, .ref msights, .ref mby, .int 0, .int (-1), .int 0, .int 0, .int 0, .int 0, .int 0, .int 0, .ref mkeptKeys, .ref mkeptValues, .ref mkeptHeights, .ref mkeptHeats, .ref mkeptKeys2, .ref mkeptValues2, .ref mkeptHeights2, .ref mkeptHeats2, .ref mkeptSights, .long hh]))] H := hP
    have hD : va_D A [(mo, .inr (12, [.ref mpage, .int 0, .int 0, .int 0, .int 0, .int 0, .int 0, .int 0, .ref mkeys, .ref mvalues, .ref mheights, .ref mheats, .int 0, .ref msecondKeys, .ref msecondValues, .ref msecondHeights, .ref msecondHeats, .int 0, .int 0, .int 0, .int 0, .ref msaved, .ref mbestHeights, .int 0, .ref msights, .ref mby, .int 0, .int (-1), .int 0, .int 0, .int 0, .int 0, .int 0, .int 0, .ref mkeptKeys, .ref mkeptValues, .ref mkeptHeights, .ref mkeptHeats, .ref mkeptKeys2, .ref mkeptValues2, .ref mkeptHeights2, .ref mkeptHeats2, .ref mkeptSights, .long hh]))] := hD
    refine W.widen (k := 0) (n := 0) (by decide) (by decide) ?_
    exact wk_iret () hx hb hr hlocks (by decide) hK hP hD hS [0] rfl rfl dX12_countOf_100
  · refine lv_tableIn (off := 100) (tgt := 101) hx hb dX12_countOf_1 (by decide) (by decide) (by decide) (by decide) ?_
    have hl : lv_has ls 2 [(0, .ref mo), (1, .int 5)] := hl
    refine lv_aload_n hx hb dX12_countOf_101 rfl (lv_at hl 0 rfl) ?_
    refine va_get (D := D) (ci := 12) (v := .int 0) (C := RX12) (T := TX12) (N := 44) hx hb htb inX12 hown hK hP 0 rfl rfl 12 (by decide) (htb _ tw_775) (fun _ h9 => h9) rfl dX12_countOf_102 ?_
    refine W.widen (k := 0) (n := 0) (by decide) (by decide) ?_
    exact wk_iret () hx hb hr hlocks (by decide) hK hP hD hS [0] rfl rfl dX12_countOf_105
  · refine lv_tableIn (off := 105) (tgt := 106) hx hb dX12_countOf_1 (by decide) (by decide) (by decide) (by decide) ?_
    have hl : lv_has ls 2 [(0, .ref mo), (1, .int 6)] := hl
    refine lv_aload_n hx hb dX12_countOf_106 rfl (lv_at hl 0 rfl) ?_
    refine va_get (D := D) (ci := 12) (v := .int 0) (C := RX12) (T := TX12) (N := 44) hx hb htb inX12 hown hK hP 0 rfl rfl 4 (by decide) (htb _ tw_767) (fun _ h9 => h9) rfl dX12_countOf_107 ?_
    refine W.widen (k := 0) (n := 0) (by decide) (by decide) ?_
    exact wk_iret () hx hb hr hlocks (by decide) hK hP hD hS [0] rfl rfl dX12_countOf_110
  · refine lv_tableIn (off := 110) (tgt := 111) hx hb dX12_countOf_1 (by decide) (by decide) (by decide) (by decide) ?_
    have hl : lv_has ls 2 [(0, .ref mo), (1, .int 7)] := hl
    refine lv_aload_n hx hb dX12_countOf_111 rfl (lv_at hl 0 rfl) ?_
    refine va_get (D := D) (ci := 12) (v := .int 0) (C := RX12) (T := TX12) (N := 44) hx hb htb inX12 hown hK hP 0 rfl rfl 5 (by decide) (htb _ tw_768) (fun _ h9 => h9) rfl dX12_countOf_112 ?_
    refine W.widen (k := 0) (n := 0) (by decide) (by decide) ?_
    exact wk_iret () hx hb hr hlocks (by decide) hK hP hD hS [0] rfl rfl dX12_countOf_115
  · refine lv_tableIn (off := 115) (tgt := 116) hx hb dX12_countOf_1 (by decide) (by decide) (by decide) (by decide) ?_
    have hl : lv_has ls 2 [(0, .ref mo), (1, .int 8)] := hl
    refine lv_aload_n hx hb dX12_countOf_116 rfl (lv_at hl 0 rfl) ?_
    refine va_get (D := D) (ci := 12) (v := .int 0) (C := RX12) (T := TX12) (N := 44) hx hb htb inX12 hown hK hP 0 rfl rfl 6 (by decide) (htb _ tw_769) (fun _ h9 => h9) rfl dX12_countOf_117 ?_
    refine W.widen (k := 0) (n := 0) (by decide) (by decide) ?_
    exact wk_iret () hx hb hr hlocks (by decide) hK hP hD hS [0] rfl rfl dX12_countOf_120
  · refine lv_tableIn (off := 120) (tgt := 121) hx hb dX12_countOf_1 (by decide) (by decide) (by decide) (by decide) ?_
    have hl : lv_has ls 2 [(0, .ref mo), (1, .int 9)] := hl
    refine lv_aload_n hx hb dX12_countOf_121 rfl (lv_at hl 0 rfl) ?_
    refine va_get (D := D) (ci := 12) (v := .int 0) (C := RX12) (T := TX12) (N := 44) hx hb htb inX12 hown hK hP 0 rfl rfl 23 (by decide) (htb _ tw_786) (fun _ h9 => h9) rfl dX12_countOf_122 ?_
    refine W.widen (k := 0) (n := 0) (by decide) (by decide) ?_
    exact wk_iret () hx hb hr hlocks (by decide) hK hP hD hS [0] rfl rfl dX12_countOf_125
  · refine lv_tableIn (off := 125) (tgt := 126) hx hb dX12_countOf_1 (by decide) (by decide) (by decide) (by decide) ?_
    have hl : lv_has ls 2 [(0, .ref mo), (1, .int 10)] := hl
    refine lv_aload_n hx hb dX12_countOf_126 rfl (lv_at hl 0 rfl) ?_
    refine va_get (D := D) (ci := 12) (v := .int 0) (C := RX12) (T := TX12) (N := 44) hx hb htb inX12 hown hK hP 0 rfl rfl 1 (by decide) (htb _ tw_764) (fun _ h9 => h9) rfl dX12_countOf_127 ?_
    refine W.widen (k := 0) (n := 0) (by decide) (by decide) ?_
    exact wk_iret () hx hb hr hlocks (by decide) hK hP hD hS [0] rfl rfl dX12_countOf_130
  · refine lv_tableIn (off := 130) (tgt := 131) hx hb dX12_countOf_1 (by decide) (by decide) (by decide) (by decide) ?_
    have hl : lv_has ls 2 [(0, .ref mo), (1, .int 11)] := hl
    refine lv_aload_n hx hb dX12_countOf_131 rfl (lv_at hl 0 rfl) ?_
    refine va_get (D := D) (ci := 12) (v := .int 0) (C := RX12) (T := TX12) (N := 44) hx hb htb inX12 hown hK hP 0 rfl rfl 7 (by decide) (htb _ tw_770) (fun _ h9 => h9) rfl dX12_countOf_132 ?_
    refine W.widen (k := 0) (n := 0) (by decide) (by decide) ?_
    exact wk_iret () hx hb hr hlocks (by decide) hK hP hD hS [0] rfl rfl dX12_countOf_135
  · refine lv_tableIn (off := 135) (tgt := 136) hx hb dX12_countOf_1 (by decide) (by decide) (by decide) (by decide) ?_
    have hl : lv_has ls 2 [(0, .ref mo), (1, .int 12)] := hl
    refine lv_aload_n hx hb dX12_countOf_136 rfl (lv_at hl 0 rfl) ?_
    refine va_get (D := D) (ci := 12) (v := .int 0) (C := RX12) (T := TX12) (N := 44) hx hb htb inX12 hown hK hP 0 rfl rfl 20 (by decide) (htb _ tw_783) (fun _ h9 => h9) rfl dX12_countOf_137 ?_
    refine W.widen (k := 0) (n := 0) (by decide) (by decide) ?_
    exact wk_iret () hx hb hr hlocks (by decide) hK hP hD hS [0] rfl rfl dX12_countOf_140
