theorem dX12_letter_0 : decode cX12_letter 0 = .ok (.iload_n 1, 1) := by decide +kernel
theorem dX12_letter_1 : decode cX12_letter 1 = .ok (.i2l, 1) := by decide +kernel
theorem dX12_letter_2 : decode cX12_letter 2 = .ok (.lconst 1, 1) := by decide +kernel
theorem dX12_letter_3 : decode cX12_letter 3 = .ok (.ldc2_w 80, 3) := by decide +kernel
theorem dX12_letter_6 : decode cX12_letter 6 = .ok (.invokestatic 82, 3) := by decide +kernel
theorem dX12_letter_9 : decode cX12_letter 9 = .ok (.ifCond .ne 6, 3) := by decide +kernel
theorem dX12_letter_12 : decode cX12_letter 12 = .ok (.bipush (-102), 2) := by decide +kernel
theorem dX12_letter_14 : decode cX12_letter 14 = .ok (.ireturn, 1) := by decide +kernel
theorem dX12_letter_15 : decode cX12_letter 15 = .ok (.aload_n 0, 1) := by decide +kernel
theorem dX12_letter_16 : decode cX12_letter 16 = .ok (.getfield 86, 3) := by decide +kernel
theorem dX12_letter_19 : decode cX12_letter 19 = .ok (.bipush 44, 2) := by decide +kernel
theorem dX12_letter_21 : decode cX12_letter 21 = .ok (.if_icmp .ne 6, 3) := by decide +kernel
theorem dX12_letter_27 : decode cX12_letter 27 = .ok (.aload_n 0, 1) := by decide +kernel
theorem dX12_letter_28 : decode cX12_letter 28 = .ok (.getfield 7, 3) := by decide +kernel
theorem dX12_letter_31 : decode cX12_letter 31 = .ok (.aload_n 0, 1) := by decide +kernel
theorem dX12_letter_32 : decode cX12_letter 32 = .ok (.getfield 86, 3) := by decide +kernel
theorem dX12_letter_35 : decode cX12_letter 35 = .ok (.iload_n 1, 1) := by decide +kernel
theorem dX12_letter_36 : decode cX12_letter 36 = .ok (.iastore, 1) := by decide +kernel
theorem dX12_letter_37 : decode cX12_letter 37 = .ok (.aload_n 0, 1) := by decide +kernel
theorem dX12_letter_38 : decode cX12_letter 38 = .ok (.dup, 1) := by decide +kernel
theorem dX12_letter_39 : decode cX12_letter 39 = .ok (.getfield 86, 3) := by decide +kernel
theorem dX12_letter_42 : decode cX12_letter 42 = .ok (.iconst 1, 1) := by decide +kernel
theorem dX12_letter_43 : decode cX12_letter 43 = .ok (.iadd, 1) := by decide +kernel
theorem dX12_letter_44 : decode cX12_letter 44 = .ok (.putfield 86, 3) := by decide +kernel
theorem dX12_letter_47 : decode cX12_letter 47 = .ok (.aload_n 0, 1) := by decide +kernel
theorem dX12_letter_48 : decode cX12_letter 48 = .ok (.getfield 86, 3) := by decide +kernel
theorem dX12_letter_51 : decode cX12_letter 51 = .ok (.ireturn, 1) := by decide +kernel
set_option maxHeartbeats 4000000 in
set_option maxRecDepth 100000 in
theorem c_X12_letter (l : Launch) (D : va_G) (cy : ClassId) (mo mpage mkeys mvalues mheights mheats msecondKeys msecondValues msecondHeights msecondHeats msaved mbestHeights msights mby mkeptKeys mkeptValues mkeptHeights mkeptHeats mkeptKeys2 mkeptValues2 mkeptHeights2 mkeptHeats2 mkeptSights : Nat) (a : Int32) (hh : Int64) : wk_Ci l yX12_letter cX12_letter 2 (some .int) { frames := 1, cells := 0, slots := 0, locals := 25 } D cy [.ref mo, .int a] [(mo, .inr (12, [.ref mpage, .int 0, .int 0, .int 0, .int 0, .int 0, .int 0, .int 0, .ref mkeys, .ref mvalues, .ref mheights, .ref mheats, .int 0, .ref msecondKeys, .ref msecondValues, .ref msecondHeights, .ref msecondHeats, .int 0, .int 0, .int 0, .int 0, .ref msaved, .ref mbestHeights, .int 0, .ref msights, .ref mby, .int 0, .int (-1), .int 0, .int 0, .int 0, .int 0, .int 0, .int 0, .ref mkeptKeys, .ref mkeptValues, .ref mkeptHeights, .ref mkeptHeats, .ref mkeptKeys2, .ref mkeptValues2, .ref mkeptHeights2, .ref mkeptHeats2, .ref mkeptSights, .long hh])), (mpage, .inl (cy, 44, .inl (fun _ => 0)))] 0 0 (fun (r : Int32) (u : Unit) => r = if (1 ≤ a.toInt ∧ a.toInt ≤ 126) then 1 else (-102)) (fun u => []) := by
  refine wk_mkCi (by decide) (Nat.le_of_ble_eq_true rfl) ?_
  intro p e s m below meth c A ls B hA hK hP hD hS hl
  obtain ⟨hx, hb, hr, hlocks, hml, hown, htb, hin⟩ := B
  have hl : lv_has ls 2 [(0, .ref mo), (1, .int a)] := hl
  refine lv_iload_n hx hb dX12_letter_0 rfl (lv_at hl 1 rfl) ?_
  refine lv_i2l (v := a.toInt64) hx hb dX12_letter_1 rfl ?_
  refine lv_lconst (v := 1) hx hb dX12_letter_2 (by decide) ?_
  refine lv_ldc2 (v := 126) hx hb hown (htb _ tw_900) dX12_letter_3 ?_
  refine wk_iS (As := [.long a.toInt64, .long 1, .long 126]) (rest := []) (wc := []) (wr := [(mo, .inr (12, [.ref mpage, .int 0, .int 0, .int 0, .int 0, .int 0, .int 0, .int 0, .ref mkeys, .ref mvalues, .ref mheights, .ref mheats, .int 0, .ref msecondKeys, .ref msecondValues, .ref msecondHeights, .ref msecondHeats, .int 0, .int 0, .int 0, .int 0, .ref msaved, .ref mbestHeights, .int 0, .ref msights, .ref mby, .int 0, .int (-1), .int 0, .int 0, .int 0, .int 0, .int 0, .int 0, .ref mkeptKeys, .ref mkeptValues, .ref mkeptHeights, .ref mkeptHeats, .ref mkeptKeys2, .ref mkeptValues2, .ref mkeptHeights2, .ref mkeptHeats2, .ref mkeptSights, .long hh])), (mpage, .inl (cy, 44, .inl (fun _ => 0)))]) (n := 3) (R := _) ⟨hx, hb, hml, hown, htb⟩ (c_X12_in l D cy   a.toInt64 1 126) tw_903 tw_901 tw_902 tw_71 rfl rfl (by decide +kernel) ⟨Nat.le_of_ble_eq_true rfl, Nat.le_of_ble_eq_true rfl⟩ hK hP hD hS hA [] [0, 1] rfl rfl rfl rfl (by decide) rfl hl.1 rfl (Nat.le_of_ble_eq_true rfl) dX12_letter_6 ⟨Nat.le_of_ble_eq_true rfl, Nat.le_of_ble_eq_true rfl⟩ (fun r_1 u_2 H locs hw_3 hP hD hS => ?_)
  refine W.widen (k := 0) (n := 0) (by decide) (by decide) ?_
  have hw_3 : r_1 = wk_in a.toInt64 1 126 := hw_3
  subst hw_3
  have hP : va_P D classes [(mo, .inr (12, [.ref mpage, .int 0, .int 0, .int 0, .int 0, .int 0, .int 0, .int 0, .ref mkeys, .ref mvalues, .ref mheights, .ref mheats, .int 0, .ref msecondKeys, .ref msecondValues, .ref msecondHeights, .ref msecondHeats, .int 0, .int 0, .int 0, .int 0, .ref msaved, .ref mbestHeights, .int 0, .ref msights, .ref mby, .int 0, .int (-1), .int 0, .int 0, .int 0, .int 0, .int 0, .int 0, .ref mkeptKeys, .ref mkeptValues, .ref mkeptHeights, .ref mkeptHeats, .ref mkeptKeys2, .ref mkeptValues2, .ref mkeptHeights2, .ref mkeptHeats2, .ref mkeptSights, .long hh])), (mpage, .inl (cy, 44, .inl (fun _ => 0)))] H := hP
  have hD : va_D A [(mo, .inr (12, [.ref mpage, .int 0, .int 0, .int 0, .int 0, .int 0, .int 0, .int 0, .ref mkeys, .ref mvalues, .ref mheights, .ref mheats, .int 0, .ref msecondKeys, .ref msecondValues, .ref msecondHeights, .ref msecondHeats, .int 0, .int 0, .int 0, .int 0, .ref msaved, .ref mbestHeights, .int 0, .ref msights, .ref mby, .int 0, .int (-1), .int 0, .int 0, .int 0, .int 0, .int 0, .int 0, .ref mkeptKeys, .ref mkeptValues, .ref mkeptHeights, .ref mkeptHeats, .ref mkeptKeys2, .ref mkeptValues2, .ref mkeptHeights2, .ref mkeptHeats2, .ref mkeptSights, .long hh])), (mpage, .inl (cy, 44, .inl (fun _ => 0)))] := hD
  refine lv_if_ne (tgt := 15) hx hb dX12_letter_9 (by decide) (fun c_4 => ?_) (fun c_4 => ?_)
  · have k_4 : 1 ≤ a.toInt ∧ a.toInt ≤ 126 := by have h9 := wk_in1 c_4; simp only [wk_64] at h9; exact h9
    refine lv_aload_n hx hb dX12_letter_15 rfl (lv_at hl 0 rfl) ?_
    refine va_get (D := D) (ci := 12) (v := .int 0) (C := RX12) (T := TX12) (N := 44) hx hb htb inX12 hown hK hP 0 rfl rfl 1 (by decide) (htb _ tw_764) (fun _ h9 => h9) rfl dX12_letter_16 ?_
    refine lv_bipush (v := 44) hx hb dX12_letter_19 (by decide) ?_
    refine lv_icmp_ne (tgt := 27) hx hb dX12_letter_21 (by decide) (fun _ => ?_) (fun c_5 => absurd c_5 (by decide))
    refine lv_aload_n hx hb dX12_letter_27 rfl (lv_at hl 0 rfl) ?_
    refine va_get (D := D) (ci := 12) (v := .ref mpage) (C := RX12) (T := TX12) (N := 44) hx hb htb inX12 hown hK hP 0 rfl rfl 0 (by decide) (htb _ tw_763) (fun _ h9 => h9) rfl dX12_letter_28 ?_
    refine lv_aload_n hx hb dX12_letter_31 rfl (lv_at hl 0 rfl) ?_
    refine va_get (D := D) (ci := 12) (v := .int 0) (C := RX12) (T := TX12) (N := 44) hx hb htb inX12 hown hK hP 0 rfl rfl 1 (by decide) (htb _ tw_764) (fun _ h9 => h9) rfl dX12_letter_32 ?_
    refine lv_iload_n hx hb dX12_letter_35 rfl (lv_at hl 1 rfl) ?_
    refine va_iast hx hb hK hP hD hS 1 0 rfl rfl (show vp_in 0 44 by unfold vp_in; decide) dX12_letter_36 (fun H locs hP hD hS => ?_)
    have hP : va_P D classes [(mo, .inr (12, [.ref mpage, .int 0, .int 0, .int 0, .int 0, .int 0, .int 0, .int 0, .ref mkeys, .ref mvalues, .ref mheights, .ref mheats, .int 0, .ref msecondKeys, .ref msecondValues, .ref msecondHeights, .ref msecondHeats, .int 0, .int 0, .int 0, .int 0, .ref msaved, .ref mbestHeights, .int 0, .ref msights, .ref mby, .int 0, .int (-1), .int 0, .int 0, .int 0, .int 0, .int 0, .int 0, .ref mkeptKeys, .ref mkeptValues, .ref mkeptHeights, .ref mkeptHeats, .ref mkeptKeys2, .ref mkeptValues2, .ref mkeptHeights2, .ref mkeptHeats2, .ref mkeptSights, .long hh])), (mpage, .inl (cy, 44, .inl (upd (fun _ => 0) (0 : Int32).toNatClampNeg a)))] H := hP
    have hD : va_D A [(mo, .inr (12, [.ref mpage, .int 0, .int 0, .int 0, .int 0, .int 0, .int 0, .int 0, .ref mkeys, .ref mvalues, .ref mheights, .ref mheats, .int 0, .ref msecondKeys, .ref msecondValues, .ref msecondHeights, .ref msecondHeats, .int 0, .int 0, .int 0, .int 0, .ref msaved, .ref mbestHeights, .int 0, .ref msights, .ref mby, .int 0, .int (-1), .int 0, .int 0, .int 0, .int 0, .int 0, .int 0, .ref mkeptKeys, .ref mkeptValues, .ref mkeptHeights, .ref mkeptHeats, .ref mkeptKeys2, .ref mkeptValues2, .ref mkeptHeights2, .ref mkeptHeats2, .ref mkeptSights, .long hh])), (mpage, .inl (cy, 44, .inl (upd (fun _ => 0) (0 : Int32).toNatClampNeg a)))] := hD
    refine lv_aload_n hx hb dX12_letter_37 rfl (lv_at hl 0 rfl) ?_
    refine lv_dup hx hb dX12_letter_38 rfl ?_
    refine va_get (D := D) (ci := 12) (v := .int 0) (C := RX12) (T := TX12) (N := 44) hx hb htb inX12 hown hK hP 0 rfl rfl 1 (by decide) (htb _ tw_764) (fun _ h9 => h9) rfl dX12_letter_39 ?_
    refine lv_iconst (v := 1) hx hb dX12_letter_42 (by decide) ?_
    refine lv_iadd hx hb dX12_letter_43 ?_
    refine wk_toi (show ((0 + 1) : Int32) = 1 by decide) ?_
    refine va_put (D := D) (ci := 12) (v := .int 1) (ty := .int) (C := RX12) (T := TX12) (N := 44) hx hb htb inX12 tyX12 tyX12_ok nmX12 hown hK hP hD hS 0 rfl rfl 1 (by decide) (htb _ tw_764) (fun _ h9 => h9) rfl (by decide +kernel) rfl rfl (Nat.le_of_ble_eq_true rfl) dX12_letter_44 (fun H locs hP hD hS => ?_)
    have hP : va_P D classes [(mo, .inr (12, [.ref mpage, .int 1, .int 0, .int 0, .int 0, .int 0, .int 0, .int 0, .ref mkeys, .ref mvalues, .ref mheights, .ref mheats, .int 0, .ref msecondKeys, .ref msecondValues, .ref msecondHeights, .ref msecondHeats, .int 0, .int 0, .int 0, .int 0, .ref msaved, .ref mbestHeights, .int 0, .ref msights, .ref mby, .int 0, .int (-1), .int 0, .int 0, .int 0, .int 0, .int 0, .int 0, .ref mkeptKeys, .ref mkeptValues, .ref mkeptHeights, .ref mkeptHeats, .ref mkeptKeys2, .ref mkeptValues2, .ref mkeptHeights2, .ref mkeptHeats2, .ref mkeptSights, .long hh])), (mpage, .inl (cy, 44, .inl (upd (fun _ => 0) (0 : Int32).toNatClampNeg a)))] H := hP
    have hD : va_D A [(mo, .inr (12, [.ref mpage, .int 1, .int 0, .int 0, .int 0, .int 0, .int 0, .int 0, .ref mkeys, .ref mvalues, .ref mheights, .ref mheats, .int 0, .ref msecondKeys, .ref msecondValues, .ref msecondHeights, .ref msecondHeats, .int 0, .int 0, .int 0, .int 0, .ref msaved, .ref mbestHeights, .int 0, .ref msights, .ref mby, .int 0, .int (-1), .int 0, .int 0, .int 0, .int 0, .int 0, .int 0, .ref mkeptKeys, .ref mkeptValues, .ref mkeptHeights, .ref mkeptHeats, .ref mkeptKeys2, .ref mkeptValues2, .ref mkeptHeights2, .ref mkeptHeats2, .ref mkeptSights, .long hh])), (mpage, .inl (cy, 44, .inl (upd (fun _ => 0) (0 : Int32).toNatClampNeg a)))] := hD
    refine lv_aload_n hx hb dX12_letter_47 rfl (lv_at hl 0 rfl) ?_
    refine va_get (D := D) (ci := 12) (v := .int 1) (C := RX12) (T := TX12) (N := 44) hx hb htb inX12 hown hK hP 0 rfl rfl 1 (by decide) (htb _ tw_764) (fun _ h9 => h9) rfl dX12_letter_48 ?_
    refine W.widen (k := 0) (n := 0) (by decide) (by decide) ?_
    exact wk_iret () hx hb hr hlocks (if_pos (by omega)).symm hK hP hD hS [] rfl rfl dX12_letter_51
  · have k_4 : ¬ (1 ≤ a.toInt ∧ a.toInt ≤ 126) := by have h9 := wk_in0 c_4; simp only [wk_64] at h9; exact h9
    refine lv_bipush (v := (-102)) hx hb dX12_letter_12 (by decide) ?_
    refine W.widen (k := 0) (n := 0) (by decide) (by decide) ?_
    exact wk_iret () hx hb hr hlocks (if_neg (by omega)).symm hK hP hD hS [] rfl rfl dX12_letter_14
theorem dX12_blank_0 : decode cX12_blank 0 = .ok (.aload_n 0, 1) := by decide +kernel
theorem dX12_blank_1 : decode cX12_blank 1 = .ok (.getfield 86, 3) := by decide +kernel
theorem dX12_blank_4 : decode cX12_blank 4 = .ok (.istore_n 1, 1) := by decide +kernel
theorem dX12_blank_5 : decode cX12_blank 5 = .ok (.aload_n 0, 1) := by decide +kernel
theorem dX12_blank_6 : decode cX12_blank 6 = .ok (.iconst 0, 1) := by decide +kernel
theorem dX12_blank_7 : decode cX12_blank 7 = .ok (.putfield 86, 3) := by decide +kernel
theorem dX12_blank_10 : decode cX12_blank 10 = .ok (.iload_n 1, 1) := by decide +kernel
theorem dX12_blank_11 : decode cX12_blank 11 = .ok (.ireturn, 1) := by decide +kernel
set_option maxHeartbeats 4000000 in
set_option maxRecDepth 100000 in
theorem c_X12_blank (l : Launch) (D : va_G) (cy : ClassId) (mo mpage mkeys mvalues mheights mheats msecondKeys msecondValues msecondHeights msecondHeats msaved mbestHeights msights mby mkeptKeys mkeptValues mkeptHeights mkeptHeats mkeptKeys2 mkeptValues2 mkeptHeights2 mkeptHeats2 mkeptSights : Nat) (hh : Int64) : wk_Ci l yX12_blank cX12_blank 2 (some .int) { frames := 0, cells := 0, slots := 0, locals := 0 } D cy [.ref mo] [(mo, .inr (12, [.ref mpage, .int 0, .int 0, .int 0, .int 0, .int 0, .int 0, .int 0, .ref mkeys, .ref mvalues, .ref mheights, .ref mheats, .int 0, .ref msecondKeys, .ref msecondValues, .ref msecondHeights, .ref msecondHeats, .int 0, .int 0, .int 0, .int 0, .ref msaved, .ref mbestHeights, .int 0, .ref msights, .ref mby, .int 0, .int (-1), .int 0, .int 0, .int 0, .int 0, .int 0, .int 0, .ref mkeptKeys, .ref mkeptValues, .ref mkeptHeights, .ref mkeptHeats, .ref mkeptKeys2, .ref mkeptValues2, .ref mkeptHeights2, .ref mkeptHeats2, .ref mkeptSights, .long hh]))] 0 0 (fun (r : Int32) (u : Unit) => r = 0) (fun u => []) := by
  refine wk_mkCi (by decide) (Nat.le_of_ble_eq_true rfl) ?_
  intro p e s m below meth c A ls B hA hK hP hD hS hl
  obtain ⟨hx, hb, hr, hlocks, hml, hown, htb, hin⟩ := B
  have hl : lv_has ls 2 [(0, .ref mo)] := hl
  refine lv_aload_n hx hb dX12_blank_0 rfl (lv_at hl 0 rfl) ?_
  refine va_get (D := D) (ci := 12) (v := .int 0) (C := RX12) (T := TX12) (N := 44) hx hb htb inX12 hown hK hP 0 rfl rfl 1 (by decide) (htb _ tw_764) (fun _ h9 => h9) rfl dX12_blank_1 ?_
  refine lv_istore_n (lv' := [(1, .int 0), (0, .ref mo)]) hx hb dX12_blank_4 rfl hl (by decide) rfl (fun ls hl => ?_)
  refine lv_aload_n hx hb dX12_blank_5 rfl (lv_at hl 1 rfl) ?_
  refine lv_iconst (v := 0) hx hb dX12_blank_6 (by decide) ?_
  refine va_put (D := D) (ci := 12) (v := .int 0) (ty := .int) (C := RX12) (T := TX12) (N := 44) hx hb htb inX12 tyX12 tyX12_ok nmX12 hown hK hP hD hS 0 rfl rfl 1 (by decide) (htb _ tw_764) (fun _ h9 => h9) rfl (by decide +kernel) rfl rfl (Nat.le_of_ble_eq_true rfl) dX12_blank_7 (fun H locs hP hD hS => ?_)
  have hP : va_P D classes [(mo, .inr (12, [.ref mpage, .int 0, .int 0, .int 0, .int 0, .int 0, .int 0, .int 0, .ref mkeys, .ref mvalues, .ref mheights, .ref mheats, .int 0, .ref msecondKeys, .ref msecondValues, .ref msecondHeights, .ref msecondHeats, .int 0, .int 0, .int 0, .int 0, .ref msaved, .ref mbestHeights, .int 0, .ref msights, .ref mby, .int 0, .int (-1), .int 0, .int 0, .int 0, .int 0, .int 0, .int 0, .ref mkeptKeys, .ref mkeptValues, .ref mkeptHeights, .ref mkeptHeats, .ref mkeptKeys2, .ref mkeptValues2, .ref mkeptHeights2, .ref mkeptHeats2, .ref mkeptSights, .long hh]))] H := hP
  have hD : va_D A [(mo, .inr (12, [.ref mpage, .int 0, .int 0, .int 0, .int 0, .int 0, .int 0, .int 0, .ref mkeys, .ref mvalues, .ref mheights, .ref mheats, .int 0, .ref msecondKeys, .ref msecondValues, .ref msecondHeights, .ref msecondHeats, .int 0, .int 0, .int 0, .int 0, .ref msaved, .ref mbestHeights, .int 0, .ref msights, .ref mby, .int 0, .int (-1), .int 0, .int 0, .int 0, .int 0, .int 0, .int 0, .ref mkeptKeys, .ref mkeptValues, .ref mkeptHeights, .ref mkeptHeats, .ref mkeptKeys2, .ref mkeptValues2, .ref mkeptHeights2, .ref mkeptHeats2, .ref mkeptSights, .long hh]))] := hD
  refine lv_iload_n hx hb dX12_blank_10 rfl (lv_at hl 0 rfl) ?_
  refine W.widen (k := 0) (n := 0) (by decide) (by decide) ?_
  exact wk_iret () hx hb hr hlocks rfl hK hP hD hS [] rfl rfl dX12_blank_11
theorem dX12_fault_0 : decode cX12_fault 0 = .ok (.aload_n 0, 1) := by decide +kernel
theorem dX12_fault_1 : decode cX12_fault 1 = .ok (.invokevirtual 115, 3) := by decide +kernel
theorem dX12_fault_4 : decode cX12_fault 4 = .ok (.ireturn, 1) := by decide +kernel
set_option maxHeartbeats 4000000 in
set_option maxRecDepth 100000 in
theorem c_X12_fault (l : Launch) (D : va_G) (cy : ClassId) (mo mpage mkeys mvalues mheights mheats msecondKeys msecondValues msecondHeights msecondHeats msaved mbestHeights msights mby mkeptKeys mkeptValues mkeptHeights mkeptHeats mkeptKeys2 mkeptValues2 mkeptHeights2 mkeptHeats2 mkeptSights : Nat) (hh : Int64) : wk_Ci l yX12_fault cX12_fault 1 (some .int) { frames := 1, cells := 0, slots := 0, locals := 21 } D cy [.ref mo] [(mo, .inr (12, [.ref mpage, .int 0, .int 0, .int 0, .int 0, .int 0, .int 0, .int 0, .ref mkeys, .ref mvalues, .ref mheights, .ref mheats, .int 0, .ref msecondKeys, .ref msecondValues, .ref msecondHeights, .ref msecondHeats, .int 0, .int 0, .int 0, .int 0, .ref msaved, .ref mbestHeights, .int 0, .ref msights, .ref mby, .int 0, .int (-1), .int 0, .int 0, .int 0, .int 0, .int 0, .int 0, .ref mkeptKeys, .ref mkeptValues, .ref mkeptHeights, .ref mkeptHeats, .ref mkeptKeys2, .ref mkeptValues2, .ref mkeptHeights2, .ref mkeptHeats2, .ref mkeptSights, .long hh]))] 0 0 (fun (r : Int32) (u : Unit) => r = 0) (fun u => [(mo, .inr (12, [.ref mpage, .int 0, .int 0, .int 0, .int 0, .int 0, .int 0, .int 0, .ref mkeys, .ref mvalues, .ref mheights, .ref mheats, .int 0, .ref msecondKeys, .ref msecondValues, .ref msecondHeights, .ref msecondHeats, .int 0, .int 0, .int 0, .int 0, .ref msaved, .ref mbestHeights, .int 0, .ref msights, .ref mby, .int 0, .int (-1), .int 0, .int 0, .int 0, .int 0, .int 0, .int 0, .ref mkeptKeys, .ref mkeptValues, .ref mkeptHeights, .ref mkeptHeats, .ref mkeptKeys2, .ref mkeptValues2, .ref mkeptHeights2, .ref mkeptHeats2, .ref mkeptSights, .long hh]))]) := by
  refine wk_mkCi (by decide) (Nat.le_of_ble_eq_true rfl) ?_
  intro p e s m below meth c A ls B hA hK hP hD hS hl
  obtain ⟨hx, hb, hr, hlocks, hml, hown, htb, hin⟩ := B
  have hl : lv_has ls 1 [(0, .ref mo)] := hl
  refine lv_aload_n hx hb dX12_fault_0 rfl (lv_at hl 0 rfl) ?_
  refine wk_iV (As := []) (rest := []) (wc := [(mo, .inr (12, [.ref mpage, .int 0, .int 0, .int 0, .int 0, .int 0, .int 0, .int 0, .ref mkeys, .ref mvalues, .ref mheights, .ref mheats, .int 0, .ref msecondKeys, .ref msecondValues, .ref msecondHeights, .ref msecondHeats, .int 0, .int 0, .int 0, .int 0, .ref msaved, .ref mbestHeights, .int 0, .ref msights, .ref mby, .int 0, .int (-1), .int 0, .int 0, .int 0, .int 0, .int 0, .int 0, .ref mkeptKeys, .ref mkeptValues, .ref mkeptHeights, .ref mkeptHeats, .ref mkeptKeys2, .ref mkeptValues2, .ref mkeptHeights2, .ref mkeptHeats2, .ref mkeptSights, .long hh]))]) (wr := []) (n := 0) (R := _) ⟨hx, hb, hml, hown, htb⟩ (c_X12_faultOf l D cy mo mpage mkeys mvalues mheights mheats msecondKeys msecondValues msecondHeights msecondHeats msaved mbestHeights msights mby mkeptKeys mkeptValues mkeptHeights mkeptHeats mkeptKeys2 mkeptValues2 mkeptHeights2 mkeptHeats2 mkeptSights  hh) tw_915 tw_912 tw_914 tw_22 tw_71 rfl rfl (by decide +kernel) ⟨Nat.le_of_ble_eq_true rfl, Nat.le_of_ble_eq_true rfl⟩ hK hP hD hS hA [0] [] rfl rfl rfl rfl (by decide) 0 (ci := 12) rfl rfl rfl hl.1 rfl (Nat.le_of_ble_eq_true rfl) dX12_fault_1 ⟨Nat.le_of_ble_eq_true rfl, Nat.le_of_ble_eq_true rfl⟩ (fun r_1 u_2 H locs hw_3 hP hD hS => ?_)
  refine W.widen (k := 0) (n := 0) (by decide) (by decide) ?_
  have hw_3 : r_1 = 0 := hw_3
  subst hw_3
  have hP : va_P D classes [(mo, .inr (12, [.ref mpage, .int 0, .int 0, .int 0, .int 0, .int 0, .int 0, .int 0, .ref mkeys, .ref mvalues, .ref mheights, .ref mheats, .int 0, .ref msecondKeys, .ref msecondValues, .ref msecondHeights, .ref msecondHeats, .int 0, .int 0, .int 0, .int 0, .ref msaved, .ref mbestHeights, .int 0, .ref msights, .ref mby, .int 0, .int (-1), .int 0, .int 0, .int 0, .int 0, .int 0, .int 0, .ref mkeptKeys, .ref mkeptValues, .ref mkeptHeights, .ref mkeptHeats, .ref mkeptKeys2, .ref mkeptValues2, .ref mkeptHeights2, .ref mkeptHeats2, .ref mkeptSights, .long hh]))] H := hP
  have hD : va_D A [(mo, .inr (12, [.ref mpage, .int 0, .int 0, .int 0, .int 0, .int 0, .int 0, .int 0, .ref mkeys, .ref mvalues, .ref mheights, .ref mheats, .int 0, .ref msecondKeys, .ref msecondValues, .ref msecondHeights, .ref msecondHeats, .int 0, .int 0, .int 0, .int 0, .ref msaved, .ref mbestHeights, .int 0, .ref msights, .ref mby, .int 0, .int (-1), .int 0, .int 0, .int 0, .int 0, .int 0, .int 0, .ref mkeptKeys, .ref mkeptValues, .ref mkeptHeights, .ref mkeptHeats, .ref mkeptKeys2, .ref mkeptValues2, .ref mkeptHeights2, .ref mkeptHeats2, .ref mkeptSights, .long hh]))] := hD
  refine W.widen (k := 0) (n := 0) (by decide) (by decide) ?_
  exact wk_iret () hx hb hr hlocks rfl hK hP hD hS [0] rfl rfl dX12_fault_4
theorem dX12_row_0 : decode cX12_row 0 = .ok (.aload_n 0, 1) := by decide +kernel
theorem dX12_row_1 : decode cX12_row 1 = .ok (.getfield 86, 3) := by decide +kernel
theorem dX12_row_4 : decode cX12_row 4 = .ok (.iconst 2, 1) := by decide +kernel
theorem dX12_row_5 : decode cX12_row 5 = .ok (.aload_n 0, 1) := by decide +kernel
theorem dX12_row_6 : decode cX12_row 6 = .ok (.invokevirtual 89, 3) := by decide +kernel
theorem dX12_row_9 : decode cX12_row 9 = .ok (.imul, 1) := by decide +kernel
theorem dX12_row_10 : decode cX12_row 10 = .ok (.if_icmp .le 32, 3) := by decide +kernel
theorem dX12_row_42 : decode cX12_row 42 = .ok (.iconst 0, 1) := by decide +kernel
theorem dX12_row_43 : decode cX12_row 43 = .ok (.istore_n 1, 1) := by decide +kernel
theorem dX12_row_44 : decode cX12_row 44 = .ok (.iload_n 1, 1) := by decide +kernel
theorem dX12_row_45 : decode cX12_row 45 = .ok (.ifCond .ne 6, 3) := by decide +kernel
theorem dX12_row_48 : decode cX12_row 48 = .ok (.bipush (-103), 2) := by decide +kernel
theorem dX12_row_50 : decode cX12_row 50 = .ok (.ireturn, 1) := by decide +kernel
set_option maxHeartbeats 4000000 in
set_option maxRecDepth 100000 in
theorem c_X12_row (l : Launch) (D : va_G) (cy : ClassId) (mo mpage mkeys mvalues mheights mheats msecondKeys msecondValues msecondHeights msecondHeats msaved mbestHeights msights mby mkeptKeys mkeptValues mkeptHeights mkeptHeats mkeptKeys2 mkeptValues2 mkeptHeights2 mkeptHeats2 mkeptSights : Nat) (hh : Int64) : wk_Ci l yX12_row cX12_row 4 (some .int) { frames := 1, cells := 0, slots := 0, locals := 20 } D cy [.ref mo] [(mo, .inr (12, [.ref mpage, .int 0, .int 0, .int 0, .int 0, .int 0, .int 0, .int 0, .ref mkeys, .ref mvalues, .ref mheights, .ref mheats, .int 0, .ref msecondKeys, .ref msecondValues, .ref msecondHeights, .ref msecondHeats, .int 0, .int 0, .int 0, .int 0, .ref msaved, .ref mbestHeights, .int 0, .ref msights, .ref mby, .int 0, .int (-1), .int 0, .int 0, .int 0, .int 0, .int 0, .int 0, .ref mkeptKeys, .ref mkeptValues, .ref mkeptHeights, .ref mkeptHeats, .ref mkeptKeys2, .ref mkeptValues2, .ref mkeptHeights2, .ref mkeptHeats2, .ref mkeptSights, .long hh])), (mpage, .inl (cy, 44, .inl (fun _ => 0)))] 0 0 (fun (r : Int32) (u : Unit) => r = (-103)) (fun u => [(mo, .inr (12, [.ref mpage, .int 0, .int 0, .int 0, .int 0, .int 0, .int 0, .int 0, .ref mkeys, .ref mvalues, .ref mheights, .ref mheats, .int 0, .ref msecondKeys, .ref msecondValues, .ref msecondHeights, .ref msecondHeats, .int 0, .int 0, .int 0, .int 0, .ref msaved, .ref mbestHeights, .int 0, .ref msights, .ref mby, .int 0, .int (-1), .int 0, .int 0, .int 0, .int 0, .int 0, .int 0, .ref mkeptKeys, .ref mkeptValues, .ref mkeptHeights, .ref mkeptHeats, .ref mkeptKeys2, .ref mkeptValues2, .ref mkeptHeights2, .ref mkeptHeats2, .ref mkeptSights, .long hh])), (mpage, .inl (cy, 44, .inl (fun _ => 0)))]) := by
  refine wk_mkCi (by decide) (Nat.le_of_ble_eq_true rfl) ?_
  intro p e s m below meth c A ls B hA hK hP hD hS hl
  obtain ⟨hx, hb, hr, hlocks, hml, hown, htb, hin⟩ := B
  have hl : lv_has ls 4 [(0, .ref mo)] := hl
  refine lv_aload_n hx hb dX12_row_0 rfl (lv_at hl 0 rfl) ?_
  refine va_get (D := D) (ci := 12) (v := .int 0) (C := RX12) (T := TX12) (N := 44) hx hb htb inX12 hown hK hP 0 rfl rfl 1 (by decide) (htb _ tw_764) (fun _ h9 => h9) rfl dX12_row_1 ?_
  refine lv_iconst (v := 2) hx hb dX12_row_4 (by decide) ?_
  refine lv_aload_n hx hb dX12_row_5 rfl (lv_at hl 0 rfl) ?_
  refine wk_iV (As := []) (rest := [.int 2, .int 0]) (wc := [(mo, .inr (12, [.ref mpage, .int 0, .int 0, .int 0, .int 0, .int 0, .int 0, .int 0, .ref mkeys, .ref mvalues, .ref mheights, .ref mheats, .int 0, .ref msecondKeys, .ref msecondValues, .ref msecondHeights, .ref msecondHeats, .int 0, .int 0, .int 0, .int 0, .ref msaved, .ref mbestHeights, .int 0, .ref msights, .ref mby, .int 0, .int (-1), .int 0, .int 0, .int 0, .int 0, .int 0, .int 0, .ref mkeptKeys, .ref mkeptValues, .ref mkeptHeights, .ref mkeptHeats, .ref mkeptKeys2, .ref mkeptValues2, .ref mkeptHeights2, .ref mkeptHeats2, .ref mkeptSights, .long hh])), (mpage, .inl (cy, 44, .inl (fun _ => 0)))]) (wr := []) (n := 0) (R := _) ⟨hx, hb, hml, hown, htb⟩ (c_X12_wide l D cy mo mpage mkeys mvalues mheights mheats msecondKeys msecondValues msecondHeights msecondHeats msaved mbestHeights msights mby mkeptKeys mkeptValues mkeptHeights mkeptHeats mkeptKeys2 mkeptValues2 mkeptHeights2 mkeptHeats2 mkeptSights  hh) tw_930 tw_927 tw_929 tw_25 tw_71 rfl rfl (by decide +kernel) ⟨Nat.le_of_ble_eq_true rfl, Nat.le_of_ble_eq_true rfl⟩ hK hP hD hS hA [0, 1] [] rfl rfl rfl rfl (by decide) 0 (ci := 12) rfl rfl rfl hl.1 rfl (Nat.le_of_ble_eq_true rfl) dX12_row_6 ⟨Nat.le_of_ble_eq_true rfl, Nat.le_of_ble_eq_true rfl⟩ (fun r_1 u_2 H locs hw_3 hP hD hS => ?_)
  refine W.widen (k := 0) (n := 0) (by decide) (by decide) ?_
  have hw_3 : r_1 = 4 := hw_3
  subst hw_3
  have hP : va_P D classes [(mo, .inr (12, [.ref mpage, .int 0, .int 0, .int 0, .int 0, .int 0, .int 0, .int 0, .ref mkeys, .ref mvalues, .ref mheights, .ref mheats, .int 0, .ref msecondKeys, .ref msecondValues, .ref msecondHeights, .ref msecondHeats, .int 0, .int 0, .int 0, .int 0, .ref msaved, .ref mbestHeights, .int 0, .ref msights, .ref mby, .int 0, .int (-1), .int 0, .int 0, .int 0, .int 0, .int 0, .int 0, .ref mkeptKeys, .ref mkeptValues, .ref mkeptHeights, .ref mkeptHeats, .ref mkeptKeys2, .ref mkeptValues2, .ref mkeptHeights2, .ref mkeptHeats2, .ref mkeptSights, .long hh])), (mpage, .inl (cy, 44, .inl (fun _ => 0)))] H := hP
  have hD : va_D A [(mo, .inr (12, [.ref mpage, .int 0, .int 0, .int 0, .int 0, .int 0, .int 0, .int 0, .ref mkeys, .ref mvalues, .ref mheights, .ref mheats, .int 0, .ref msecondKeys, .ref msecondValues, .ref msecondHeights, .ref msecondHeats, .int 0, .int 0, .int 0, .int 0, .ref msaved, .ref mbestHeights, .int 0, .ref msights, .ref mby, .int 0, .int (-1), .int 0, .int 0, .int 0, .int 0, .int 0, .int 0, .ref mkeptKeys, .ref mkeptValues, .ref mkeptHeights, .ref mkeptHeats, .ref mkeptKeys2, .ref mkeptValues2, .ref mkeptHeights2, .ref mkeptHeats2, .ref mkeptSights, .long hh])), (mpage, .inl (cy, 44, .inl (fun _ => 0)))] := hD
  refine lv_imul hx hb dX12_row_9 ?_
  refine wk_toi (show ((2 * 4) : Int32) = 8 by decide) ?_
  refine lv_icmp_le (tgt := 42) hx hb dX12_row_10 (by decide) (fun _ => ?_) (fun c_4 => absurd (by decide) c_4)
  refine lv_iconst (v := 0) hx hb dX12_row_42 (by decide) ?_
  refine lv_istore_n (lv' := [(1, .int 0), (0, .ref mo)]) hx hb dX12_row_43 rfl hl (by decide) rfl (fun ls hl => ?_)
  refine lv_iload_n hx hb dX12_row_44 rfl (lv_at hl 0 rfl) ?_
  refine lv_if_ne (tgt := 51) hx hb dX12_row_45 (by decide) (fun c_5 => absurd (by decide) c_5) (fun _ => ?_)
  refine lv_bipush (v := (-103)) hx hb dX12_row_48 (by decide) ?_
  refine W.widen (k := 0) (n := 0) (by decide) (by decide) ?_
  exact wk_iret () hx hb hr hlocks rfl hK hP hD hS [0, 1] rfl rfl dX12_row_50
theorem dX12_tape_0 : decode cX12_tape 0 = .ok (.iload_n 1, 1) := by decide +kernel
theorem dX12_tape_1 : decode cX12_tape 1 = .ok (.i2l, 1) := by decide +kernel
theorem dX12_tape_2 : decode cX12_tape 2 = .ok (.lconst 0, 1) := by decide +kernel
theorem dX12_tape_3 : decode cX12_tape 3 = .ok (.ldc2_w 240, 3) := by decide +kernel
theorem dX12_tape_6 : decode cX12_tape 6 = .ok (.invokestatic 82, 3) := by decide +kernel
theorem dX12_tape_9 : decode cX12_tape 9 = .ok (.ifCond .ne 6, 3) := by decide +kernel
theorem dX12_tape_12 : decode cX12_tape 12 = .ok (.bipush (-102), 2) := by decide +kernel
theorem dX12_tape_14 : decode cX12_tape 14 = .ok (.ireturn, 1) := by decide +kernel
theorem dX12_tape_15 : decode cX12_tape 15 = .ok (.aload_n 0, 1) := by decide +kernel
theorem dX12_tape_16 : decode cX12_tape 16 = .ok (.invokevirtual 185, 3) := by decide +kernel
theorem dX12_tape_19 : decode cX12_tape 19 = .ok (.ifCond .eq 8, 3) := by decide +kernel
theorem dX12_tape_22 : decode cX12_tape 22 = .ok (.bipush (-103), 2) := by decide +kernel
theorem dX12_tape_24 : decode cX12_tape 24 = .ok (.goto 8, 3) := by decide +kernel
theorem dX12_tape_32 : decode cX12_tape 32 = .ok (.ireturn, 1) := by decide +kernel
set_option maxHeartbeats 4000000 in
set_option maxRecDepth 100000 in
theorem c_X12_tape (l : Launch) (D : va_G) (cy : ClassId) (mo mpage mkeys mvalues mheights mheats msecondKeys msecondValues msecondHeights msecondHeats msaved mbestHeights msights mby mkeptKeys mkeptValues mkeptHeights mkeptHeats mkeptKeys2 mkeptValues2 mkeptHeights2 mkeptHeats2 mkeptSights : Nat) (a : Int32) (hh : Int64) : wk_Ci l yX12_tape cX12_tape 2 (some .int) { frames := 1, cells := 0, slots := 0, locals := 25 } D cy [.ref mo, .int a] [(mo, .inr (12, [.ref mpage, .int 0, .int 0, .int 0, .int 0, .int 0, .int 0, .int 0, .ref mkeys, .ref mvalues, .ref mheights, .ref mheats, .int 0, .ref msecondKeys, .ref msecondValues, .ref msecondHeights, .ref msecondHeats, .int 0, .int 0, .int 0, .int 0, .ref msaved, .ref mbestHeights, .int 0, .ref msights, .ref mby, .int 0, .int (-1), .int 0, .int 0, .int 0, .int 0, .int 0, .int 0, .ref mkeptKeys, .ref mkeptValues, .ref mkeptHeights, .ref mkeptHeats, .ref mkeptKeys2, .ref mkeptValues2, .ref mkeptHeights2, .ref mkeptHeats2, .ref mkeptSights, .long hh]))] 0 0 (fun (r : Int32) (u : Unit) => r = if (0 ≤ a.toInt ∧ a.toInt ≤ 50) then (-103) else (-102)) (fun u => [(mo, .inr (12, [.ref mpage, .int 0, .int 0, .int 0, .int 0, .int 0, .int 0, .int 0, .ref mkeys, .ref mvalues, .ref mheights, .ref mheats, .int 0, .ref msecondKeys, .ref msecondValues, .ref msecondHeights, .ref msecondHeats, .int 0, .int 0, .int 0, .int 0, .ref msaved, .ref mbestHeights, .int 0, .ref msights, .ref mby, .int 0, .int (-1), .int 0, .int 0, .int 0, .int 0, .int 0, .int 0, .ref mkeptKeys, .ref mkeptValues, .ref mkeptHeights, .ref mkeptHeats, .ref mkeptKeys2, .ref mkeptValues2, .ref mkeptHeights2, .ref mkeptHeats2, .ref mkeptSights, .long hh]))]) := by
  refine wk_mkCi (by decide) (Nat.le_of_ble_eq_true rfl) ?_
  intro p e s m below meth c A ls B hA hK hP hD hS hl
  obtain ⟨hx, hb, hr, hlocks, hml, hown, htb, hin⟩ := B
  have hl : lv_has ls 2 [(0, .ref mo), (1, .int a)] := hl
  refine lv_iload_n hx hb dX12_tape_0 rfl (lv_at hl 1 rfl) ?_
  refine lv_i2l (v := a.toInt64) hx hb dX12_tape_1 rfl ?_
  refine lv_lconst (v := 0) hx hb dX12_tape_2 (by decide) ?_
  refine lv_ldc2 (v := 50) hx hb hown (htb _ tw_1080) dX12_tape_3 ?_
  refine wk_iS (As := [.long a.toInt64, .long 0, .long 50]) (rest := []) (wc := []) (wr := [(mo, .inr (12, [.ref mpage, .int 0, .int 0, .int 0, .int 0, .int 0, .int 0, .int 0, .ref mkeys, .ref mvalues, .ref mheights, .ref mheats, .int 0, .ref msecondKeys, .ref msecondValues, .ref msecondHeights, .ref msecondHeats, .int 0, .int 0, .int 0, .int 0, .ref msaved, .ref mbestHeights, .int 0, .ref msights, .ref mby, .int 0, .int (-1), .int 0, .int 0, .int 0, .int 0, .int 0, .int 0, .ref mkeptKeys, .ref mkeptValues, .ref mkeptHeights, .ref mkeptHeats, .ref mkeptKeys2, .ref mkeptValues2, .ref mkeptHeights2, .ref mkeptHeats2, .ref mkeptSights, .long hh]))]) (n := 3) (R := _) ⟨hx, hb, hml, hown, htb⟩ (c_X12_in l D cy   a.toInt64 0 50) tw_903 tw_901 tw_902 tw_71 rfl rfl (by decide +kernel) ⟨Nat.le_of_ble_eq_true rfl, Nat.le_of_ble_eq_true rfl⟩ hK hP hD hS hA [] [0] rfl rfl rfl rfl (by decide) rfl hl.1 rfl (Nat.le_of_ble_eq_true rfl) dX12_tape_6 ⟨Nat.le_of_ble_eq_true rfl, Nat.le_of_ble_eq_true rfl⟩ (fun r_1 u_2 H locs hw_3 hP hD hS => ?_)
  refine W.widen (k := 0) (n := 0) (by decide) (by decide) ?_
  have hw_3 : r_1 = wk_in a.toInt64 0 50 := hw_3
  subst hw_3
  have hP : va_P D classes [(mo, .inr (12, [.ref mpage, .int 0, .int 0, .int 0, .int 0, .int 0, .int 0, .int 0, .ref mkeys, .ref mvalues, .ref mheights, .ref mheats, .int 0, .ref msecondKeys, .ref msecondValues, .ref msecondHeights, .ref msecondHeats, .int 0, .int 0, .int 0, .int 0, .ref msaved, .ref mbestHeights, .int 0, .ref msights, .ref mby, .int 0, .int (-1), .int 0, .int 0, .int 0, .int 0, .int 0, .int 0, .ref mkeptKeys, .ref mkeptValues, .ref mkeptHeights, .ref mkeptHeats, .ref mkeptKeys2, .ref mkeptValues2, .ref mkeptHeights2, .ref mkeptHeats2, .ref mkeptSights, .long hh]))] H := hP
  have hD : va_D A [(mo, .inr (12, [.ref mpage, .int 0, .int 0, .int 0, .int 0, .int 0, .int 0, .int 0, .ref mkeys, .ref mvalues, .ref mheights, .ref mheats, .int 0, .ref msecondKeys, .ref msecondValues, .ref msecondHeights, .ref msecondHeats, .int 0, .int 0, .int 0, .int 0, .ref msaved, .ref mbestHeights, .int 0, .ref msights, .ref mby, .int 0, .int (-1), .int 0, .int 0, .int 0, .int 0, .int 0, .int 0, .ref mkeptKeys, .ref mkeptValues, .ref mkeptHeights, .ref mkeptHeats, .ref mkeptKeys2, .ref mkeptValues2, .ref mkeptHeights2, .ref mkeptHeats2, .ref mkeptSights, .long hh]))] := hD
  refine lv_if_ne (tgt := 15) hx hb dX12_tape_9 (by decide) (fun c_4 => ?_) (fun c_4 => ?_)
  · have k_4 : 0 ≤ a.toInt ∧ a.toInt ≤ 50 := by have h9 := wk_in1 c_4; simp only [wk_64] at h9; exact h9
    refine lv_aload_n hx hb dX12_tape_15 rfl (lv_at hl 0 rfl) ?_
    refine wk_iV (As := []) (rest := []) (wc := [(mo, .inr (12, [.ref mpage, .int 0, .int 0, .int 0, .int 0, .int 0, .int 0, .int 0, .ref mkeys, .ref mvalues, .ref mheights, .ref mheats, .int 0, .ref msecondKeys, .ref msecondValues, .ref msecondHeights, .ref msecondHeats, .int 0, .int 0, .int 0, .int 0, .ref msaved, .ref mbestHeights, .int 0, .ref msights, .ref mby, .int 0, .int (-1), .int 0, .int 0, .int 0, .int 0, .int 0, .int 0, .ref mkeptKeys, .ref mkeptValues, .ref mkeptHeights, .ref mkeptHeats, .ref mkeptKeys2, .ref mkeptValues2, .ref mkeptHeights2, .ref mkeptHeats2, .ref mkeptSights, .long hh]))]) (wr := []) (n := 0) (R := _) ⟨hx, hb, hml, hown, htb⟩ (c_X12_lacks l D cy mo mpage mkeys mvalues mheights mheats msecondKeys msecondValues msecondHeights msecondHeats msaved mbestHeights msights mby mkeptKeys mkeptValues mkeptHeights mkeptHeats mkeptKeys2 mkeptValues2 mkeptHeights2 mkeptHeats2 mkeptSights  hh) tw_969 tw_966 tw_968 tw_29 tw_71 rfl rfl (by decide +kernel) ⟨Nat.le_of_ble_eq_true rfl, Nat.le_of_ble_eq_true rfl⟩ hK hP hD hS hA [0] [] rfl rfl rfl rfl (by decide) 0 (ci := 12) rfl rfl rfl hl.1 rfl (Nat.le_of_ble_eq_true rfl) dX12_tape_16 ⟨Nat.le_of_ble_eq_true rfl, Nat.le_of_ble_eq_true rfl⟩ (fun r_5 u_6 H locs hw_7 hP hD hS => ?_)
    refine W.widen (k := 0) (n := 0) (by decide) (by decide) ?_
    have hw_7 : r_5 = 1 := hw_7
    subst hw_7
    have hP : va_P D classes [(mo, .inr (12, [.ref mpage, .int 0, .int 0, .int 0, .int 0, .int 0, .int 0, .int 0, .ref mkeys, .ref mvalues, .ref mheights, .ref mheats, .int 0, .ref msecondKeys, .ref msecondValues, .ref msecondHeights, .ref msecondHeats, .int 0, .int 0, .int 0, .int 0, .ref msaved, .ref mbestHeights, .int 0, .ref msights, .ref mby, .int 0, .int (-1), .int 0, .int 0, .int 0, .int 0, .int 0, .int 0, .ref mkeptKeys, .ref mkeptValues, .ref mkeptHeights, .ref mkeptHeats, .ref mkeptKeys2, .ref mkeptValues2, .ref mkeptHeights2, .ref mkeptHeats2, .ref mkeptSights, .long hh]))] H := hP
    have hD : va_D A [(mo, .inr (12, [.ref mpage, .int 0, .int 0, .int 0, .int 0, .int 0, .int 0, .int 0, .ref mkeys, .ref mvalues, .ref mheights, .ref mheats, .int 0, .ref msecondKeys, .ref msecondValues, .ref msecondHeights, .ref msecondHeats, .int 0, .int 0, .int 0, .int 0, .ref msaved, .ref mbestHeights, .int 0, .ref msights, .ref mby, .int 0, .int (-1), .int 0, .int 0, .int 0, .int 0, .int 0, .int 0, .ref mkeptKeys, .ref mkeptValues, .ref mkeptHeights, .ref mkeptHeats, .ref mkeptKeys2, .ref mkeptValues2, .ref mkeptHeights2, .ref mkeptHeats2, .ref mkeptSights, .long hh]))] := hD
    refine lv_if_eq (tgt := 27) hx hb dX12_tape_19 (by decide) (fun c_8 => absurd c_8 (by decide)) (fun _ => ?_)
    refine lv_bipush (v := (-103)) hx hb dX12_tape_22 (by decide) ?_
    refine lv_goto (tgt := 32) hx hb dX12_tape_24 (by decide) ?_
    refine W.widen (k := 0) (n := 0) (by decide) (by decide) ?_
    exact wk_iret () hx hb hr hlocks (if_pos (by omega)).symm hK hP hD hS [0] rfl rfl dX12_tape_32
  · have k_4 : ¬ (0 ≤ a.toInt ∧ a.toInt ≤ 50) := by have h9 := wk_in0 c_4; simp only [wk_64] at h9; exact h9
    refine lv_bipush (v := (-102)) hx hb dX12_tape_12 (by decide) ?_
    refine W.widen (k := 0) (n := 0) (by decide) (by decide) ?_
    exact wk_iret () hx hb hr hlocks (if_neg (by omega)).symm hK hP hD hS [0] rfl rfl dX12_tape_14
theorem dX12_as_0 : decode cX12_as 0 = .ok (.iload_n 1, 1) := by decide +kernel
theorem dX12_as_1 : decode cX12_as 1 = .ok (.i2l, 1) := by decide +kernel
theorem dX12_as_2 : decode cX12_as 2 = .ok (.lconst 0, 1) := by decide +kernel
theorem dX12_as_3 : decode cX12_as 3 = .ok (.ldc2_w 235, 3) := by decide +kernel
theorem dX12_as_6 : decode cX12_as 6 = .ok (.invokestatic 82, 3) := by decide +kernel
theorem dX12_as_9 : decode cX12_as 9 = .ok (.ifCond .ne 6, 3) := by decide +kernel
theorem dX12_as_12 : decode cX12_as 12 = .ok (.bipush (-102), 2) := by decide +kernel
theorem dX12_as_14 : decode cX12_as 14 = .ok (.ireturn, 1) := by decide +kernel
theorem dX12_as_15 : decode cX12_as 15 = .ok (.aload_n 0, 1) := by decide +kernel
theorem dX12_as_16 : decode cX12_as 16 = .ok (.invokevirtual 185, 3) := by decide +kernel
theorem dX12_as_19 : decode cX12_as 19 = .ok (.ifCond .eq 6, 3) := by decide +kernel
theorem dX12_as_22 : decode cX12_as 22 = .ok (.bipush (-103), 2) := by decide +kernel
theorem dX12_as_24 : decode cX12_as 24 = .ok (.ireturn, 1) := by decide +kernel
set_option maxHeartbeats 4000000 in
set_option maxRecDepth 100000 in
theorem c_X12_as (l : Launch) (D : va_G) (cy : ClassId) (mo mpage mkeys mvalues mheights mheats msecondKeys msecondValues msecondHeights msecondHeats msaved mbestHeights msights mby mkeptKeys mkeptValues mkeptHeights mkeptHeats mkeptKeys2 mkeptValues2 mkeptHeights2 mkeptHeats2 mkeptSights : Nat) (a : Int32) (hh : Int64) : wk_Ci l yX12_as cX12_as 3 (some .int) { frames := 1, cells := 0, slots := 0, locals := 25 } D cy [.ref mo, .int a] [(mo, .inr (12, [.ref mpage, .int 0, .int 0, .int 0, .int 0, .int 0, .int 0, .int 0, .ref mkeys, .ref mvalues, .ref mheights, .ref mheats, .int 0, .ref msecondKeys, .ref msecondValues, .ref msecondHeights, .ref msecondHeats, .int 0, .int 0, .int 0, .int 0, .ref msaved, .ref mbestHeights, .int 0, .ref msights, .ref mby, .int 0, .int (-1), .int 0, .int 0, .int 0, .int 0, .int 0, .int 0, .ref mkeptKeys, .ref mkeptValues, .ref mkeptHeights, .ref mkeptHeats, .ref mkeptKeys2, .ref mkeptValues2, .ref mkeptHeights2, .ref mkeptHeats2, .ref mkeptSights, .long hh]))] 0 0 (fun (r : Int32) (u : Unit) => r = if (0 ≤ a.toInt ∧ a.toInt ≤ 4) then (-103) else (-102)) (fun u => [(mo, .inr (12, [.ref mpage, .int 0, .int 0, .int 0, .int 0, .int 0, .int 0, .int 0, .ref mkeys, .ref mvalues, .ref mheights, .ref mheats, .int 0, .ref msecondKeys, .ref msecondValues, .ref msecondHeights, .ref msecondHeats, .int 0, .int 0, .int 0, .int 0, .ref msaved, .ref mbestHeights, .int 0, .ref msights, .ref mby, .int 0, .int (-1), .int 0, .int 0, .int 0, .int 0, .int 0, .int 0, .ref mkeptKeys, .ref mkeptValues, .ref mkeptHeights, .ref mkeptHeats, .ref mkeptKeys2, .ref mkeptValues2, .ref mkeptHeights2, .ref mkeptHeats2, .ref mkeptSights, .long hh]))]) := by
  refine wk_mkCi (by decide) (Nat.le_of_ble_eq_true rfl) ?_
  intro p e s m below meth c A ls B hA hK hP hD hS hl
  obtain ⟨hx, hb, hr, hlocks, hml, hown, htb, hin⟩ := B
  have hl : lv_has ls 3 [(0, .ref mo), (1, .int a)] := hl
  refine lv_iload_n hx hb dX12_as_0 rfl (lv_at hl 1 rfl) ?_
  refine lv_i2l (v := a.toInt64) hx hb dX12_as_1 rfl ?_
  refine lv_lconst (v := 0) hx hb dX12_as_2 (by decide) ?_
  refine lv_ldc2 (v := 4) hx hb hown (htb _ tw_1075) dX12_as_3 ?_
  refine wk_iS (As := [.long a.toInt64, .long 0, .long 4]) (rest := []) (wc := []) (wr := [(mo, .inr (12, [.ref mpage, .int 0, .int 0, .int 0, .int 0, .int 0, .int 0, .int 0, .ref mkeys, .ref mvalues, .ref mheights, .ref mheats, .int 0, .ref msecondKeys, .ref msecondValues, .ref msecondHeights, .ref msecondHeats, .int 0, .int 0, .int 0, .int 0, .ref msaved, .ref mbestHeights, .int 0, .ref msights, .ref mby, .int 0, .int (-1), .int 0, .int 0, .int 0, .int 0, .int 0, .int 0, .ref mkeptKeys, .ref mkeptValues, .ref mkeptHeights, .ref mkeptHeats, .ref mkeptKeys2, .ref mkeptValues2, .ref mkeptHeights2, .ref mkeptHeats2, .ref mkeptSights, .long hh]))]) (n := 3) (R := _) ⟨hx, hb, hml, hown, htb⟩ (c_X12_in l D cy   a.toInt64 0 4) tw_903 tw_901 tw_902 tw_71 rfl rfl (by decide +kernel) ⟨Nat.le_of_ble_eq_true rfl, Nat.le_of_ble_eq_true rfl⟩ hK hP hD hS hA [] [0] rfl rfl rfl rfl (by decide) rfl hl.1 rfl (Nat.le_of_ble_eq_true rfl) dX12_as_6 ⟨Nat.le_of_ble_eq_true rfl, Nat.le_of_ble_eq_true rfl⟩ (fun r_1 u_2 H locs hw_3 hP hD hS => ?_)
  refine W.widen (k := 0) (n := 0) (by decide) (by decide) ?_
  have hw_3 : r_1 = wk_in a.toInt64 0 4 := hw_3
  subst hw_3
  have hP : va_P D classes [(mo, .inr (12, [.ref mpage, .int 0, .int 0, .int 0, .int 0, .int 0, .int 0, .int 0, .ref mkeys, .ref mvalues, .ref mheights, .ref mheats, .int 0, .ref msecondKeys, .ref msecondValues, .ref msecondHeights, .ref msecondHeats, .int 0, .int 0, .int 0, .int 0, .ref msaved, .ref mbestHeights, .int 0, .ref msights, .ref mby, .int 0, .int (-1), .int 0, .int 0, .int 0, .int 0, .int 0, .int 0, .ref mkeptKeys, .ref mkeptValues, .ref mkeptHeights, .ref mkeptHeats, .ref mkeptKeys2, .ref mkeptValues2, .ref mkeptHeights2, .ref mkeptHeats2, .ref mkeptSights, .long hh]))] H := hP
  have hD : va_D A [(mo, .inr (12, [.ref mpage, .int 0, .int 0, .int 0, .int 0, .int 0, .int 0, .int 0, .ref mkeys, .ref mvalues, .ref mheights, .ref mheats, .int 0, .ref msecondKeys, .ref msecondValues, .ref msecondHeights, .ref msecondHeats, .int 0, .int 0, .int 0, .int 0, .ref msaved, .ref mbestHeights, .int 0, .ref msights, .ref mby, .int 0, .int (-1), .int 0, .int 0, .int 0, .int 0, .int 0, .int 0, .ref mkeptKeys, .ref mkeptValues, .ref mkeptHeights, .ref mkeptHeats, .ref mkeptKeys2, .ref mkeptValues2, .ref mkeptHeights2, .ref mkeptHeats2, .ref mkeptSights, .long hh]))] := hD
  refine lv_if_ne (tgt := 15) hx hb dX12_as_9 (by decide) (fun c_4 => ?_) (fun c_4 => ?_)
  · have k_4 : 0 ≤ a.toInt ∧ a.toInt ≤ 4 := by have h9 := wk_in1 c_4; simp only [wk_64] at h9; exact h9
    refine lv_aload_n hx hb dX12_as_15 rfl (lv_at hl 0 rfl) ?_
    refine wk_iV (As := []) (rest := []) (wc := [(mo, .inr (12, [.ref mpage, .int 0, .int 0, .int 0, .int 0, .int 0, .int 0, .int 0, .ref mkeys, .ref mvalues, .ref mheights, .ref mheats, .int 0, .ref msecondKeys, .ref msecondValues, .ref msecondHeights, .ref msecondHeats, .int 0, .int 0, .int 0, .int 0, .ref msaved, .ref mbestHeights, .int 0, .ref msights, .ref mby, .int 0, .int (-1), .int 0, .int 0, .int 0, .int 0, .int 0, .int 0, .ref mkeptKeys, .ref mkeptValues, .ref mkeptHeights, .ref mkeptHeats, .ref mkeptKeys2, .ref mkeptValues2, .ref mkeptHeights2, .ref mkeptHeats2, .ref mkeptSights, .long hh]))]) (wr := []) (n := 0) (R := _) ⟨hx, hb, hml, hown, htb⟩ (c_X12_lacks l D cy mo mpage mkeys mvalues mheights mheats msecondKeys msecondValues msecondHeights msecondHeats msaved mbestHeights msights mby mkeptKeys mkeptValues mkeptHeights mkeptHeats mkeptKeys2 mkeptValues2 mkeptHeights2 mkeptHeats2 mkeptSights  hh) tw_969 tw_966 tw_968 tw_29 tw_71 rfl rfl (by decide +kernel) ⟨Nat.le_of_ble_eq_true rfl, Nat.le_of_ble_eq_true rfl⟩ hK hP hD hS hA [0] [] rfl rfl rfl rfl (by decide) 0 (ci := 12) rfl rfl rfl hl.1 rfl (Nat.le_of_ble_eq_true rfl) dX12_as_16 ⟨Nat.le_of_ble_eq_true rfl, Nat.le_of_ble_eq_true rfl⟩ (fun r_5 u_6 H locs hw_7 hP hD hS => ?_)
    refine W.widen (k := 0) (n := 0) (by decide) (by decide) ?_
    have hw_7 : r_5 = 1 := hw_7
    subst hw_7
    have hP : va_P D classes [(mo, .inr (12, [.ref mpage, .int 0, .int 0, .int 0, .int 0, .int 0, .int 0, .int 0, .ref mkeys, .ref mvalues, .ref mheights, .ref mheats, .int 0, .ref msecondKeys, .ref msecondValues, .ref msecondHeights, .ref msecondHeats, .int 0, .int 0, .int 0, .int 0, .ref msaved, .ref mbestHeights, .int 0, .ref msights, .ref mby, .int 0, .int (-1), .int 0, .int 0, .int 0, .int 0, .int 0, .int 0, .ref mkeptKeys, .ref mkeptValues, .ref mkeptHeights, .ref mkeptHeats, .ref mkeptKeys2, .ref mkeptValues2, .ref mkeptHeights2, .ref mkeptHeats2, .ref mkeptSights, .long hh]))] H := hP
    have hD : va_D A [(mo, .inr (12, [.ref mpage, .int 0, .int 0, .int 0, .int 0, .int 0, .int 0, .int 0, .ref mkeys, .ref mvalues, .ref mheights, .ref mheats, .int 0, .ref msecondKeys, .ref msecondValues, .ref msecondHeights, .ref msecondHeats, .int 0, .int 0, .int 0, .int 0, .ref msaved, .ref mbestHeights, .int 0, .ref msights, .ref mby, .int 0, .int (-1), .int 0, .int 0, .int 0, .int 0, .int 0, .int 0, .ref mkeptKeys, .ref mkeptValues, .ref mkeptHeights, .ref mkeptHeats, .ref mkeptKeys2, .ref mkeptValues2, .ref mkeptHeights2, .ref mkeptHeats2, .ref mkeptSights, .long hh]))] := hD
    refine lv_if_eq (tgt := 25) hx hb dX12_as_19 (by decide) (fun c_8 => absurd c_8 (by decide)) (fun _ => ?_)
    refine lv_bipush (v := (-103)) hx hb dX12_as_22 (by decide) ?_
    refine W.widen (k := 0) (n := 0) (by decide) (by decide) ?_
    exact wk_iret () hx hb hr hlocks (if_pos (by omega)).symm hK hP hD hS [0] rfl rfl dX12_as_24
  · have k_4 : ¬ (0 ≤ a.toInt ∧ a.toInt ≤ 4) := by have h9 := wk_in0 c_4; simp only [wk_64] at h9; exact h9
    refine lv_bipush (v := (-102)) hx hb dX12_as_12 (by decide) ?_
    refine W.widen (k := 0) (n := 0) (by decide) (by decide) ?_
    exact wk_iret () hx hb hr hlocks (if_neg (by omega)).symm hK hP hD hS [0] rfl rfl dX12_as_14
theorem dX12_key_0 : decode cX12_key 0 = .ok (.aload_n 0, 1) := by decide +kernel
theorem dX12_key_1 : decode cX12_key 1 = .ok (.iload_n 1, 1) := by decide +kernel
theorem dX12_key_2 : decode cX12_key 2 = .ok (.invokevirtual 192, 3) := by decide +kernel
theorem dX12_key_5 : decode cX12_key 5 = .ok (.ifCond .eq 12, 3) := by decide +kernel
theorem dX12_key_17 : decode cX12_key 17 = .ok (.bipush (-101), 2) := by decide +kernel
theorem dX12_key_19 : decode cX12_key 19 = .ok (.ireturn, 1) := by decide +kernel
set_option maxHeartbeats 4000000 in
set_option maxRecDepth 100000 in
theorem c_X12_key (l : Launch) (D : va_G) (cy : ClassId) (mo mpage mkeys mvalues mheights mheats msecondKeys msecondValues msecondHeights msecondHeats msaved mbestHeights msights mby mkeptKeys mkeptValues mkeptHeights mkeptHeats mkeptKeys2 mkeptValues2 mkeptHeights2 mkeptHeats2 mkeptSights : Nat) (a b : Int32) (hh : Int64) : wk_Ci l yX12_key cX12_key 3 (some .int) { frames := 2, cells := 0, slots := 0, locals := 46 } D cy [.ref mo, .int a, .int b] [(mo, .inr (12, [.ref mpage, .int 0, .int 0, .int 0, .int 0, .int 0, .int 0, .int 0, .ref mkeys, .ref mvalues, .ref mheights, .ref mheats, .int 0, .ref msecondKeys, .ref msecondValues, .ref msecondHeights, .ref msecondHeats, .int 0, .int 0, .int 0, .int 0, .ref msaved, .ref mbestHeights, .int 0, .ref msights, .ref mby, .int 0, .int (-1), .int 0, .int 0, .int 0, .int 0, .int 0, .int 0, .ref mkeptKeys, .ref mkeptValues, .ref mkeptHeights, .ref mkeptHeats, .ref mkeptKeys2, .ref mkeptValues2, .ref mkeptHeights2, .ref mkeptHeats2, .ref mkeptSights, .long hh]))] 0 0 (fun (r : Int32) (u : Unit) => r = (-101)) (fun u => [(mo, .inr (12, [.ref mpage, .int 0, .int 0, .int 0, .int 0, .int 0, .int 0, .int 0, .ref mkeys, .ref mvalues, .ref mheights, .ref mheats, .int 0, .ref msecondKeys, .ref msecondValues, .ref msecondHeights, .ref msecondHeats, .int 0, .int 0, .int 0, .int 0, .ref msaved, .ref mbestHeights, .int 0, .ref msights, .ref mby, .int 0, .int (-1), .int 0, .int 0, .int 0, .int 0, .int 0, .int 0, .ref mkeptKeys, .ref mkeptValues, .ref mkeptHeights, .ref mkeptHeats, .ref mkeptKeys2, .ref mkeptValues2, .ref mkeptHeights2, .ref mkeptHeats2, .ref mkeptSights, .long hh]))]) := by
  refine wk_mkCi (by decide) (Nat.le_of_ble_eq_true rfl) ?_
  intro p e s m below meth c A ls B hA hK hP hD hS hl
  obtain ⟨hx, hb, hr, hlocks, hml, hown, htb, hin⟩ := B
  have hl : lv_has ls 3 [(0, .ref mo), (1, .int a), (2, .int b)] := hl
  refine lv_aload_n hx hb dX12_key_0 rfl (lv_at hl 0 rfl) ?_
  refine lv_iload_n hx hb dX12_key_1 rfl (lv_at hl 1 rfl) ?_
  refine wk_iV (As := [.int a]) (rest := []) (wc := [(mo, .inr (12, [.ref mpage, .int 0, .int 0, .int 0, .int 0, .int 0, .int 0, .int 0, .ref mkeys, .ref mvalues, .ref mheights, .ref mheats, .int 0, .ref msecondKeys, .ref msecondValues, .ref msecondHeights, .ref msecondHeats, .int 0, .int 0, .int 0, .int 0, .ref msaved, .ref mbestHeights, .int 0, .ref msights, .ref mby, .int 0, .int (-1), .int 0, .int 0, .int 0, .int 0, .int 0, .int 0, .ref mkeptKeys, .ref mkeptValues, .ref mkeptHeights, .ref mkeptHeats, .ref mkeptKeys2, .ref mkeptValues2, .ref mkeptHeights2, .ref mkeptHeats2, .ref mkeptSights, .long hh]))]) (wr := []) (n := 1) (R := _) ⟨hx, hb, hml, hown, htb⟩ (c_X12_isNumber l D cy mo mpage mkeys mvalues mheights mheats msecondKeys msecondValues msecondHeights msecondHeats msaved mbestHeights msights mby mkeptKeys mkeptValues mkeptHeights mkeptHeats mkeptKeys2 mkeptValues2 mkeptHeights2 mkeptHeats2 mkeptSights a hh) tw_997 tw_994 tw_996 tw_35 tw_71 rfl rfl (by decide +kernel) ⟨Nat.le_of_ble_eq_true rfl, Nat.le_of_ble_eq_true rfl⟩ hK hP hD hS hA [0] [] rfl rfl rfl rfl (by decide) 0 (ci := 12) rfl rfl rfl hl.1 rfl (Nat.le_of_ble_eq_true rfl) dX12_key_2 ⟨Nat.le_of_ble_eq_true rfl, Nat.le_of_ble_eq_true rfl⟩ (fun r_1 u_2 H locs hw_3 hP hD hS => ?_)
  refine W.widen (k := 0) (n := 0) (by decide) (by decide) ?_
  have hw_3 : r_1 = 0 := hw_3
  subst hw_3
  have hP : va_P D classes [(mo, .inr (12, [.ref mpage, .int 0, .int 0, .int 0, .int 0, .int 0, .int 0, .int 0, .ref mkeys, .ref mvalues, .ref mheights, .ref mheats, .int 0, .ref msecondKeys, .ref msecondValues, .ref msecondHeights, .ref msecondHeats, .int 0, .int 0, .int 0, .int 0, .ref msaved, .ref mbestHeights, .int 0, .ref msights, .ref mby, .int 0, .int (-1), .int 0, .int 0, .int 0, .int 0, .int 0, .int 0, .ref mkeptKeys, .ref mkeptValues, .ref mkeptHeights, .ref mkeptHeats, .ref mkeptKeys2, .ref mkeptValues2, .ref mkeptHeights2, .ref mkeptHeats2, .ref mkeptSights, .long hh]))] H := hP
  have hD : va_D A [(mo, .inr (12, [.ref mpage, .int 0, .int 0, .int 0, .int 0, .int 0, .int 0, .int 0, .ref mkeys, .ref mvalues, .ref mheights, .ref mheats, .int 0, .ref msecondKeys, .ref msecondValues, .ref msecondHeights, .ref msecondHeats, .int 0, .int 0, .int 0, .int 0, .ref msaved, .ref mbestHeights, .int 0, .ref msights, .ref mby, .int 0, .int (-1), .int 0, .int 0, .int 0, .int 0, .int 0, .int 0, .ref mkeptKeys, .ref mkeptValues, .ref mkeptHeights, .ref mkeptHeats, .ref mkeptKeys2, .ref mkeptValues2, .ref mkeptHeights2, .ref mkeptHeats2, .ref mkeptSights, .long hh]))] := hD
  refine lv_if_eq (tgt := 17) hx hb dX12_key_5 (by decide) (fun _ => ?_) (fun c_4 => absurd (by decide) c_4)
  refine lv_bipush (v := (-101)) hx hb dX12_key_17 (by decide) ?_
  refine W.widen (k := 0) (n := 0) (by decide) (by decide) ?_
  exact wk_iret () hx hb hr hlocks rfl hK hP hD hS [0] rfl rfl dX12_key_19
theorem dX12_lane_0 : decode cX12_lane 0 = .ok (.aload_n 0, 1) := by decide +kernel
theorem dX12_lane_1 : decode cX12_lane 1 = .ok (.invokevirtual 185, 3) := by decide +kernel
theorem dX12_lane_4 : decode cX12_lane 4 = .ok (.ifCond .ne 24, 3) := by decide +kernel
theorem dX12_lane_28 : decode cX12_lane 28 = .ok (.bipush (-101), 2) := by decide +kernel
theorem dX12_lane_30 : decode cX12_lane 30 = .ok (.ireturn, 1) := by decide +kernel
set_option maxHeartbeats 4000000 in
set_option maxRecDepth 100000 in
theorem c_X12_lane (l : Launch) (D : va_G) (cy : ClassId) (mo mpage mkeys mvalues mheights mheats msecondKeys msecondValues msecondHeights msecondHeats msaved mbestHeights msights mby mkeptKeys mkeptValues mkeptHeights mkeptHeats mkeptKeys2 mkeptValues2 mkeptHeights2 mkeptHeats2 mkeptSights : Nat) (a b : Int32) (hh : Int64) : wk_Ci l yX12_lane cX12_lane 3 (some .int) { frames := 1, cells := 0, slots := 0, locals := 20 } D cy [.ref mo, .int a, .int b] [(mo, .inr (12, [.ref mpage, .int 0, .int 0, .int 0, .int 0, .int 0, .int 0, .int 0, .ref mkeys, .ref mvalues, .ref mheights, .ref mheats, .int 0, .ref msecondKeys, .ref msecondValues, .ref msecondHeights, .ref msecondHeats, .int 0, .int 0, .int 0, .int 0, .ref msaved, .ref mbestHeights, .int 0, .ref msights, .ref mby, .int 0, .int (-1), .int 0, .int 0, .int 0, .int 0, .int 0, .int 0, .ref mkeptKeys, .ref mkeptValues, .ref mkeptHeights, .ref mkeptHeats, .ref mkeptKeys2, .ref mkeptValues2, .ref mkeptHeights2, .ref mkeptHeats2, .ref mkeptSights, .long hh]))] 0 0 (fun (r : Int32) (u : Unit) => r = (-101)) (fun u => [(mo, .inr (12, [.ref mpage, .int 0, .int 0, .int 0, .int 0, .int 0, .int 0, .int 0, .ref mkeys, .ref mvalues, .ref mheights, .ref mheats, .int 0, .ref msecondKeys, .ref msecondValues, .ref msecondHeights, .ref msecondHeats, .int 0, .int 0, .int 0, .int 0, .ref msaved, .ref mbestHeights, .int 0, .ref msights, .ref mby, .int 0, .int (-1), .int 0, .int 0, .int 0, .int 0, .int 0, .int 0, .ref mkeptKeys, .ref mkeptValues, .ref mkeptHeights, .ref mkeptHeats, .ref mkeptKeys2, .ref mkeptValues2, .ref mkeptHeights2, .ref mkeptHeats2, .ref mkeptSights, .long hh]))]) := by
  refine wk_mkCi (by decide) (Nat.le_of_ble_eq_true rfl) ?_
  intro p e s m below meth c A ls B hA hK hP hD hS hl
  obtain ⟨hx, hb, hr, hlocks, hml, hown, htb, hin⟩ := B
  have hl : lv_has ls 3 [(0, .ref mo), (1, .int a), (2, .int b)] := hl
  refine lv_aload_n hx hb dX12_lane_0 rfl (lv_at hl 0 rfl) ?_
  refine wk_iV (As := []) (rest := []) (wc := [(mo, .inr (12, [.ref mpage, .int 0, .int 0, .int 0, .int 0, .int 0, .int 0, .int 0, .ref mkeys, .ref mvalues, .ref mheights, .ref mheats, .int 0, .ref msecondKeys, .ref msecondValues, .ref msecondHeights, .ref msecondHeats, .int 0, .int 0, .int 0, .int 0, .ref msaved, .ref mbestHeights, .int 0, .ref msights, .ref mby, .int 0, .int (-1), .int 0, .int 0, .int 0, .int 0, .int 0, .int 0, .ref mkeptKeys, .ref mkeptValues, .ref mkeptHeights, .ref mkeptHeats, .ref mkeptKeys2, .ref mkeptValues2, .ref mkeptHeights2, .ref mkeptHeats2, .ref mkeptSights, .long hh]))]) (wr := []) (n := 0) (R := _) ⟨hx, hb, hml, hown, htb⟩ (c_X12_lacks l D cy mo mpage mkeys mvalues mheights mheats msecondKeys msecondValues msecondHeights msecondHeats msaved mbestHeights msights mby mkeptKeys mkeptValues mkeptHeights mkeptHeats mkeptKeys2 mkeptValues2 mkeptHeights2 mkeptHeats2 mkeptSights  hh) tw_969 tw_966 tw_968 tw_29 tw_71 rfl rfl (by decide +kernel) ⟨Nat.le_of_ble_eq_true rfl, Nat.le_of_ble_eq_true rfl⟩ hK hP hD hS hA [0] [] rfl rfl rfl rfl (by decide) 0 (ci := 12) rfl rfl rfl hl.1 rfl (Nat.le_of_ble_eq_true rfl) dX12_lane_1 ⟨Nat.le_of_ble_eq_true rfl, Nat.le_of_ble_eq_true rfl⟩ (fun r_1 u_2 H locs hw_3 hP hD hS => ?_)
  refine W.widen (k := 0) (n := 0) (by decide) (by decide) ?_
  have hw_3 : r_1 = 1 := hw_3
  subst hw_3
  have hP : va_P D classes [(mo, .inr (12, [.ref mpage, .int 0, .int 0, .int 0, .int 0, .int 0, .int 0, .int 0, .ref mkeys, .ref mvalues, .ref mheights, .ref mheats, .int 0, .ref msecondKeys, .ref msecondValues, .ref msecondHeights, .ref msecondHeats, .int 0, .int 0, .int 0, .int 0, .ref msaved, .ref mbestHeights, .int 0, .ref msights, .ref mby, .int 0, .int (-1), .int 0, .int 0, .int 0, .int 0, .int 0, .int 0, .ref mkeptKeys, .ref mkeptValues, .ref mkeptHeights, .ref mkeptHeats, .ref mkeptKeys2, .ref mkeptValues2, .ref mkeptHeights2, .ref mkeptHeats2, .ref mkeptSights, .long hh]))] H := hP
  have hD : va_D A [(mo, .inr (12, [.ref mpage, .int 0, .int 0, .int 0, .int 0, .int 0, .int 0, .int 0, .ref mkeys, .ref mvalues, .ref mheights, .ref mheats, .int 0, .ref msecondKeys, .ref msecondValues, .ref msecondHeights, .ref msecondHeats, .int 0, .int 0, .int 0, .int 0, .ref msaved, .ref mbestHeights, .int 0, .ref msights, .ref mby, .int 0, .int (-1), .int 0, .int 0, .int 0, .int 0, .int 0, .int 0, .ref mkeptKeys, .ref mkeptValues, .ref mkeptHeights, .ref mkeptHeats, .ref mkeptKeys2, .ref mkeptValues2, .ref mkeptHeights2, .ref mkeptHeats2, .ref mkeptSights, .long hh]))] := hD
  refine lv_if_ne (tgt := 28) hx hb dX12_lane_4 (by decide) (fun _ => ?_) (fun c_4 => absurd c_4 (by decide))
  refine lv_bipush (v := (-101)) hx hb dX12_lane_28 (by decide) ?_
  refine W.widen (k := 0) (n := 0) (by decide) (by decide) ?_
  exact wk_iret () hx hb hr hlocks rfl hK hP hD hS [0] rfl rfl dX12_lane_30
theorem dX12_find_0 : decode cX12_find 0 = .ok (.iload_n 1, 1) := by decide +kernel
theorem dX12_find_1 : decode cX12_find 1 = .ok (.invokestatic 180, 3) := by decide +kernel
theorem dX12_find_4 : decode cX12_find 4 = .ok (.ifCond .eq 15, 3) := by decide +kernel
theorem dX12_find_7 : decode cX12_find 7 = .ok (.iload_n 2, 1) := by decide +kernel
theorem dX12_find_8 : decode cX12_find 8 = .ok (.i2l, 1) := by decide +kernel
theorem dX12_find_9 : decode cX12_find 9 = .ok (.lconst 0, 1) := by decide +kernel
theorem dX12_find_10 : decode cX12_find 10 = .ok (.ldc2_w 183, 3) := by decide +kernel
theorem dX12_find_13 : decode cX12_find 13 = .ok (.invokestatic 82, 3) := by decide +kernel
theorem dX12_find_16 : decode cX12_find 16 = .ok (.ifCond .ne 6, 3) := by decide +kernel
theorem dX12_find_19 : decode cX12_find 19 = .ok (.bipush (-102), 2) := by decide +kernel
theorem dX12_find_21 : decode cX12_find 21 = .ok (.ireturn, 1) := by decide +kernel
theorem dX12_find_22 : decode cX12_find 22 = .ok (.aload_n 0, 1) := by decide +kernel
theorem dX12_find_23 : decode cX12_find 23 = .ok (.invokevirtual 185, 3) := by decide +kernel
theorem dX12_find_26 : decode cX12_find 26 = .ok (.ifCond .eq 6, 3) := by decide +kernel
theorem dX12_find_29 : decode cX12_find 29 = .ok (.bipush (-103), 2) := by decide +kernel
theorem dX12_find_31 : decode cX12_find 31 = .ok (.ireturn, 1) := by decide +kernel
set_option maxHeartbeats 4000000 in
set_option maxRecDepth 100000 in
theorem c_X12_find (l : Launch) (D : va_G) (cy : ClassId) (mo mpage mkeys mvalues mheights mheats msecondKeys msecondValues msecondHeights msecondHeats msaved mbestHeights msights mby mkeptKeys mkeptValues mkeptHeights mkeptHeats mkeptKeys2 mkeptValues2 mkeptHeights2 mkeptHeats2 mkeptSights : Nat) (a b : Int32) (hh : Int64) : wk_Ci l yX12_find cX12_find 3 (some .int) { frames := 2, cells := 0, slots := 0, locals := 45 } D cy [.ref mo, .int a, .int b] [(mo, .inr (12, [.ref mpage, .int 0, .int 0, .int 0, .int 0, .int 0, .int 0, .int 0, .ref mkeys, .ref mvalues, .ref mheights, .ref mheats, .int 0, .ref msecondKeys, .ref msecondValues, .ref msecondHeights, .ref msecondHeats, .int 0, .int 0, .int 0, .int 0, .ref msaved, .ref mbestHeights, .int 0, .ref msights, .ref mby, .int 0, .int (-1), .int 0, .int 0, .int 0, .int 0, .int 0, .int 0, .ref mkeptKeys, .ref mkeptValues, .ref mkeptHeights, .ref mkeptHeats, .ref mkeptKeys2, .ref mkeptValues2, .ref mkeptHeights2, .ref mkeptHeats2, .ref mkeptSights, .long hh]))] 0 0 (fun (r : Int32) (u : Unit) => r = if (0 ≤ a.toInt ∧ a.toInt ≤ 99) ∧ (0 ≤ b.toInt ∧ b.toInt ≤ 3) then (-103) else (-102)) (fun u => [(mo, .inr (12, [.ref mpage, .int 0, .int 0, .int 0, .int 0, .int 0, .int 0, .int 0, .ref mkeys, .ref mvalues, .ref mheights, .ref mheats, .int 0, .ref msecondKeys, .ref msecondValues, .ref msecondHeights, .ref msecondHeats, .int 0, .int 0, .int 0, .int 0, .ref msaved, .ref mbestHeights, .int 0, .ref msights, .ref mby, .int 0, .int (-1), .int 0, .int 0, .int 0, .int 0, .int 0, .int 0, .ref mkeptKeys, .ref mkeptValues, .ref mkeptHeights, .ref mkeptHeats, .ref mkeptKeys2, .ref mkeptValues2, .ref mkeptHeights2, .ref mkeptHeats2, .ref mkeptSights, .long hh]))]) := by
  refine wk_mkCi (by decide) (Nat.le_of_ble_eq_true rfl) ?_
  intro p e s m below meth c A ls B hA hK hP hD hS hl
  obtain ⟨hx, hb, hr, hlocks, hml, hown, htb, hin⟩ := B
  have hl : lv_has ls 3 [(0, .ref mo), (1, .int a), (2, .int b)] := hl
  refine lv_iload_n hx hb dX12_find_0 rfl (lv_at hl 1 rfl) ?_
  refine wk_iS (As := [.int a]) (rest := []) (wc := []) (wr := [(mo, .inr (12, [.ref mpage, .int 0, .int 0, .int 0, .int 0, .int 0, .int 0, .int 0, .ref mkeys, .ref mvalues, .ref mheights, .ref mheats, .int 0, .ref msecondKeys, .ref msecondValues, .ref msecondHeights, .ref msecondHeats, .int 0, .int 0, .int 0, .int 0, .ref msaved, .ref mbestHeights, .int 0, .ref msights, .ref mby, .int 0, .int (-1), .int 0, .int 0, .int 0, .int 0, .int 0, .int 0, .ref mkeptKeys, .ref mkeptValues, .ref mkeptHeights, .ref mkeptHeats, .ref mkeptKeys2, .ref mkeptValues2, .ref mkeptHeights2, .ref mkeptHeats2, .ref mkeptSights, .long hh]))]) (n := 1) (R := _) ⟨hx, hb, hml, hown, htb⟩ (c_X12_isKey l D cy  a ) tw_963 tw_961 tw_962 tw_71 rfl rfl (by decide +kernel) ⟨Nat.le_of_ble_eq_true rfl, Nat.le_of_ble_eq_true rfl⟩ hK hP hD hS hA [] [0] rfl rfl rfl rfl (by decide) rfl hl.1 rfl (Nat.le_of_ble_eq_true rfl) dX12_find_1 ⟨Nat.le_of_ble_eq_true rfl, Nat.le_of_ble_eq_true rfl⟩ (fun r_1 u_2 H locs hw_3 hP hD hS => ?_)
  refine W.widen (k := 0) (n := 0) (by decide) (by decide) ?_
  have hw_3 : r_1 = if (0 ≤ a.toInt ∧ a.toInt ≤ 99) then 1 else 0 := hw_3
  subst hw_3
  have hP : va_P D classes [(mo, .inr (12, [.ref mpage, .int 0, .int 0, .int 0, .int 0, .int 0, .int 0, .int 0, .ref mkeys, .ref mvalues, .ref mheights, .ref mheats, .int 0, .ref msecondKeys, .ref msecondValues, .ref msecondHeights, .ref msecondHeats, .int 0, .int 0, .int 0, .int 0, .ref msaved, .ref mbestHeights, .int 0, .ref msights, .ref mby, .int 0, .int (-1), .int 0, .int 0, .int 0, .int 0, .int 0, .int 0, .ref mkeptKeys, .ref mkeptValues, .ref mkeptHeights, .ref mkeptHeats, .ref mkeptKeys2, .ref mkeptValues2, .ref mkeptHeights2, .ref mkeptHeats2, .ref mkeptSights, .long hh]))] H := hP
  have hD : va_D A [(mo, .inr (12, [.ref mpage, .int 0, .int 0, .int 0, .int 0, .int 0, .int 0, .int 0, .ref mkeys, .ref mvalues, .ref mheights, .ref mheats, .int 0, .ref msecondKeys, .ref msecondValues, .ref msecondHeights, .ref msecondHeats, .int 0, .int 0, .int 0, .int 0, .ref msaved, .ref mbestHeights, .int 0, .ref msights, .ref mby, .int 0, .int (-1), .int 0, .int 0, .int 0, .int 0, .int 0, .int 0, .ref mkeptKeys, .ref mkeptValues, .ref mkeptHeights, .ref mkeptHeats, .ref mkeptKeys2, .ref mkeptValues2, .ref mkeptHeights2, .ref mkeptHeats2, .ref mkeptSights, .long hh]))] := hD
  refine lv_if_eq (tgt := 19) hx hb dX12_find_4 (by decide) (fun c_4 => ?_) (fun c_4 => ?_)
  · have k_4 : ¬ ((0 ≤ a.toInt ∧ a.toInt ≤ 99)) := wk_o0 c_4
    refine lv_bipush (v := (-102)) hx hb dX12_find_19 (by decide) ?_
    refine W.widen (k := 0) (n := 0) (by decide) (by decide) ?_
    exact wk_iret () hx hb hr hlocks (if_neg (by omega)).symm hK hP hD hS [0] rfl rfl dX12_find_21
  · have k_4 : (0 ≤ a.toInt ∧ a.toInt ≤ 99) := wk_o1 c_4
    refine lv_iload_n hx hb dX12_find_7 rfl (lv_at hl 2 rfl) ?_
    refine lv_i2l (v := b.toInt64) hx hb dX12_find_8 rfl ?_
    refine lv_lconst (v := 0) hx hb dX12_find_9 (by decide) ?_
    refine lv_ldc2 (v := 3) hx hb hown (htb _ tw_965) dX12_find_10 ?_
    refine wk_iS (As := [.long b.toInt64, .long 0, .long 3]) (rest := []) (wc := []) (wr := [(mo, .inr (12, [.ref mpage, .int 0, .int 0, .int 0, .int 0, .int 0, .int 0, .int 0, .ref mkeys, .ref mvalues, .ref mheights, .ref mheats, .int 0, .ref msecondKeys, .ref msecondValues, .ref msecondHeights, .ref msecondHeats, .int 0, .int 0, .int 0, .int 0, .ref msaved, .ref mbestHeights, .int 0, .ref msights, .ref mby, .int 0, .int (-1), .int 0, .int 0, .int 0, .int 0, .int 0, .int 0, .ref mkeptKeys, .ref mkeptValues, .ref mkeptHeights, .ref mkeptHeats, .ref mkeptKeys2, .ref mkeptValues2, .ref mkeptHeights2, .ref mkeptHeats2, .ref mkeptSights, .long hh]))]) (n := 3) (R := _) ⟨hx, hb, hml, hown, htb⟩ (c_X12_in l D cy   b.toInt64 0 3) tw_903 tw_901 tw_902 tw_71 rfl rfl (by decide +kernel) ⟨Nat.le_of_ble_eq_true rfl, Nat.le_of_ble_eq_true rfl⟩ hK hP hD hS hA [] [0] rfl rfl rfl rfl (by decide) rfl hl.1 rfl (Nat.le_of_ble_eq_true rfl) dX12_find_13 ⟨Nat.le_of_ble_eq_true rfl, Nat.le_of_ble_eq_true rfl⟩ (fun r_5 u_6 H locs hw_7 hP hD hS => ?_)
    refine W.widen (k := 0) (n := 0) (by decide) (by decide) ?_
    have hw_7 : r_5 = wk_in b.toInt64 0 3 := hw_7
    subst hw_7
    have hP : va_P D classes [(mo, .inr (12, [.ref mpage, .int 0, .int 0, .int 0, .int 0, .int 0, .int 0, .int 0, .ref mkeys, .ref mvalues, .ref mheights, .ref mheats, .int 0, .ref msecondKeys, .ref msecondValues, .ref msecondHeights, .ref msecondHeats, .int 0, .int 0, .int 0, .int 0, .ref msaved, .ref mbestHeights, .int 0, .ref msights, .ref mby, .int 0, .int (-1), .int 0, .int 0, .int 0, .int 0, .int 0, .int 0, .ref mkeptKeys, .ref mkeptValues, .ref mkeptHeights, .ref mkeptHeats, .ref mkeptKeys2, .ref mkeptValues2, .ref mkeptHeights2, .ref mkeptHeats2, .ref mkeptSights, .long hh]))] H := hP
    have hD : va_D A [(mo, .inr (12, [.ref mpage, .int 0, .int 0, .int 0, .int 0, .int 0, .int 0, .int 0, .ref mkeys, .ref mvalues, .ref mheights, .ref mheats, .int 0, .ref msecondKeys, .ref msecondValues, .ref msecondHeights, .ref msecondHeats, .int 0, .int 0, .int 0, .int 0, .ref msaved, .ref mbestHeights, .int 0, .ref msights, .ref mby, .int 0, .int (-1), .int 0, .int 0, .int 0, .int 0, .int 0, .int 0, .ref mkeptKeys, .ref mkeptValues, .ref mkeptHeights, .ref mkeptHeats, .ref mkeptKeys2, .ref mkeptValues2, .ref mkeptHeights2, .ref mkeptHeats2, .ref mkeptSights, .long hh]))] := hD
    refine lv_if_ne (tgt := 22) hx hb dX12_find_16 (by decide) (fun c_8 => ?_) (fun c_8 => ?_)
    · have k_8 : 0 ≤ b.toInt ∧ b.toInt ≤ 3 := by have h9 := wk_in1 c_8; simp only [wk_64] at h9; exact h9
      refine lv_aload_n hx hb dX12_find_22 rfl (lv_at hl 0 rfl) ?_
      refine wk_iV (As := []) (rest := []) (wc := [(mo, .inr (12, [.ref mpage, .int 0, .int 0, .int 0, .int 0, .int 0, .int 0, .int 0, .ref mkeys, .ref mvalues, .ref mheights, .ref mheats, .int 0, .ref msecondKeys, .ref msecondValues, .ref msecondHeights, .ref msecondHeats, .int 0, .int 0, .int 0, .int 0, .ref msaved, .ref mbestHeights, .int 0, .ref msights, .ref mby, .int 0, .int (-1), .int 0, .int 0, .int 0, .int 0, .int 0, .int 0, .ref mkeptKeys, .ref mkeptValues, .ref mkeptHeights, .ref mkeptHeats, .ref mkeptKeys2, .ref mkeptValues2, .ref mkeptHeights2, .ref mkeptHeats2, .ref mkeptSights, .long hh]))]) (wr := []) (n := 0) (R := _) ⟨hx, hb, hml, hown, htb⟩ (c_X12_lacks l D cy mo mpage mkeys mvalues mheights mheats msecondKeys msecondValues msecondHeights msecondHeats msaved mbestHeights msights mby mkeptKeys mkeptValues mkeptHeights mkeptHeats mkeptKeys2 mkeptValues2 mkeptHeights2 mkeptHeats2 mkeptSights  hh) tw_969 tw_966 tw_968 tw_29 tw_71 rfl rfl (by decide +kernel) ⟨Nat.le_of_ble_eq_true rfl, Nat.le_of_ble_eq_true rfl⟩ hK hP hD hS hA [0] [] rfl rfl rfl rfl (by decide) 0 (ci := 12) rfl rfl rfl hl.1 rfl (Nat.le_of_ble_eq_true rfl) dX12_find_23 ⟨Nat.le_of_ble_eq_true rfl, Nat.le_of_ble_eq_true rfl⟩ (fun r_9 u_10 H locs hw_11 hP hD hS => ?_)
      refine W.widen (k := 0) (n := 0) (by decide) (by decide) ?_
      have hw_11 : r_9 = 1 := hw_11
      subst hw_11
      have hP : va_P D classes [(mo, .inr (12, [.ref mpage, .int 0, .int 0, .int 0, .int 0, .int 0, .int 0, .int 0, .ref mkeys, .ref mvalues, .ref mheights, .ref mheats, .int 0, .ref msecondKeys, .ref msecondValues, .ref msecondHeights, .ref msecondHeats, .int 0, .int 0, .int 0, .int 0, .ref msaved, .ref mbestHeights, .int 0, .ref msights, .ref mby, .int 0, .int (-1), .int 0, .int 0, .int 0, .int 0, .int 0, .int 0, .ref mkeptKeys, .ref mkeptValues, .ref mkeptHeights, .ref mkeptHeats, .ref mkeptKeys2, .ref mkeptValues2, .ref mkeptHeights2, .ref mkeptHeats2, .ref mkeptSights, .long hh]))] H := hP
      have hD : va_D A [(mo, .inr (12, [.ref mpage, .int 0, .int 0, .int 0, .int 0, .int 0, .int 0, .int 0, .ref mkeys, .ref mvalues, .ref mheights, .ref mheats, .int 0, .ref msecondKeys, .ref msecondValues, .ref msecondHeights, .ref msecondHeats, .int 0, .int 0, .int 0, .int 0, .ref msaved, .ref mbestHeights, .int 0, .ref msights, .ref mby, .int 0, .int (-1), .int 0, .int 0, .int 0, .int 0, .int 0, .int 0, .ref mkeptKeys, .ref mkeptValues, .ref mkeptHeights, .ref mkeptHeats, .ref mkeptKeys2, .ref mkeptValues2, .ref mkeptHeights2, .ref mkeptHeats2, .ref mkeptSights, .long hh]))] := hD
      refine lv_if_eq (tgt := 32) hx hb dX12_find_26 (by decide) (fun c_12 => absurd c_12 (by decide)) (fun _ => ?_)
      refine lv_bipush (v := (-103)) hx hb dX12_find_29 (by decide) ?_
      refine W.widen (k := 0) (n := 0) (by decide) (by decide) ?_
      exact wk_iret () hx hb hr hlocks (if_pos (by omega)).symm hK hP hD hS [0] rfl rfl dX12_find_31
    · have k_8 : ¬ (0 ≤ b.toInt ∧ b.toInt ≤ 3) := by have h9 := wk_in0 c_8; simp only [wk_64] at h9; exact h9
      refine lv_bipush (v := (-102)) hx hb dX12_find_19 (by decide) ?_
      refine W.widen (k := 0) (n := 0) (by decide) (by decide) ?_
      exact wk_iret () hx hb hr hlocks (if_neg (by omega)).symm hK hP hD hS [0] rfl rfl dX12_find_21
theorem dX12_nth_0 : decode cX12_nth 0 = .ok (.aload_n 0, 1) := by decide +kernel
theorem dX12_nth_1 : decode cX12_nth 1 = .ok (.iload_n 1, 1) := by decide +kernel
theorem dX12_nth_2 : decode cX12_nth 2 = .ok (.invokevirtual 192, 3) := by decide +kernel
theorem dX12_nth_5 : decode cX12_nth 5 = .ok (.ifCond .ne 6, 3) := by decide +kernel
theorem dX12_nth_8 : decode cX12_nth 8 = .ok (.bipush (-101), 2) := by decide +kernel
theorem dX12_nth_10 : decode cX12_nth 10 = .ok (.ireturn, 1) := by decide +kernel
set_option maxHeartbeats 4000000 in
set_option maxRecDepth 100000 in
theorem c_X12_nth (l : Launch) (D : va_G) (cy : ClassId) (mo mpage mkeys mvalues mheights mheats msecondKeys msecondValues msecondHeights msecondHeats msaved mbestHeights msights mby mkeptKeys mkeptValues mkeptHeights mkeptHeats mkeptKeys2 mkeptValues2 mkeptHeights2 mkeptHeats2 mkeptSights : Nat) (a b : Int32) (hh : Int64) : wk_Ci l yX12_nth cX12_nth 3 (some .int) { frames := 2, cells := 0, slots := 0, locals := 46 } D cy [.ref mo, .int a, .int b] [(mo, .inr (12, [.ref mpage, .int 0, .int 0, .int 0, .int 0, .int 0, .int 0, .int 0, .ref mkeys, .ref mvalues, .ref mheights, .ref mheats, .int 0, .ref msecondKeys, .ref msecondValues, .ref msecondHeights, .ref msecondHeats, .int 0, .int 0, .int 0, .int 0, .ref msaved, .ref mbestHeights, .int 0, .ref msights, .ref mby, .int 0, .int (-1), .int 0, .int 0, .int 0, .int 0, .int 0, .int 0, .ref mkeptKeys, .ref mkeptValues, .ref mkeptHeights, .ref mkeptHeats, .ref mkeptKeys2, .ref mkeptValues2, .ref mkeptHeights2, .ref mkeptHeats2, .ref mkeptSights, .long hh]))] 0 0 (fun (r : Int32) (u : Unit) => r = (-101)) (fun u => [(mo, .inr (12, [.ref mpage, .int 0, .int 0, .int 0, .int 0, .int 0, .int 0, .int 0, .ref mkeys, .ref mvalues, .ref mheights, .ref mheats, .int 0, .ref msecondKeys, .ref msecondValues, .ref msecondHeights, .ref msecondHeats, .int 0, .int 0, .int 0, .int 0, .ref msaved, .ref mbestHeights, .int 0, .ref msights, .ref mby, .int 0, .int (-1), .int 0, .int 0, .int 0, .int 0, .int 0, .int 0, .ref mkeptKeys, .ref mkeptValues, .ref mkeptHeights, .ref mkeptHeats, .ref mkeptKeys2, .ref mkeptValues2, .ref mkeptHeights2, .ref mkeptHeats2, .ref mkeptSights, .long hh]))]) := by
  refine wk_mkCi (by decide) (Nat.le_of_ble_eq_true rfl) ?_
  intro p e s m below meth c A ls B hA hK hP hD hS hl
  obtain ⟨hx, hb, hr, hlocks, hml, hown, htb, hin⟩ := B
  have hl : lv_has ls 3 [(0, .ref mo), (1, .int a), (2, .int b)] := hl
  refine lv_aload_n hx hb dX12_nth_0 rfl (lv_at hl 0 rfl) ?_
  refine lv_iload_n hx hb dX12_nth_1 rfl (lv_at hl 1 rfl) ?_
  refine wk_iV (As := [.int a]) (rest := []) (wc := [(mo, .inr (12, [.ref mpage, .int 0, .int 0, .int 0, .int 0, .int 0, .int 0, .int 0, .ref mkeys, .ref mvalues, .ref mheights, .ref mheats, .int 0, .ref msecondKeys, .ref msecondValues, .ref msecondHeights, .ref msecondHeats, .int 0, .int 0, .int 0, .int 0, .ref msaved, .ref mbestHeights, .int 0, .ref msights, .ref mby, .int 0, .int (-1), .int 0, .int 0, .int 0, .int 0, .int 0, .int 0, .ref mkeptKeys, .ref mkeptValues, .ref mkeptHeights, .ref mkeptHeats, .ref mkeptKeys2, .ref mkeptValues2, .ref mkeptHeights2, .ref mkeptHeats2, .ref mkeptSights, .long hh]))]) (wr := []) (n := 1) (R := _) ⟨hx, hb, hml, hown, htb⟩ (c_X12_isNumber l D cy mo mpage mkeys mvalues mheights mheats msecondKeys msecondValues msecondHeights msecondHeats msaved mbestHeights msights mby mkeptKeys mkeptValues mkeptHeights mkeptHeats mkeptKeys2 mkeptValues2 mkeptHeights2 mkeptHeats2 mkeptSights a hh) tw_997 tw_994 tw_996 tw_35 tw_71 rfl rfl (by decide +kernel) ⟨Nat.le_of_ble_eq_true rfl, Nat.le_of_ble_eq_true rfl⟩ hK hP hD hS hA [0] [] rfl rfl rfl rfl (by decide) 0 (ci := 12) rfl rfl rfl hl.1 rfl (Nat.le_of_ble_eq_true rfl) dX12_nth_2 ⟨Nat.le_of_ble_eq_true rfl, Nat.le_of_ble_eq_true rfl⟩ (fun r_1 u_2 H locs hw_3 hP hD hS => ?_)
  refine W.widen (k := 0) (n := 0) (by decide) (by decide) ?_
  have hw_3 : r_1 = 0 := hw_3
  subst hw_3
  have hP : va_P D classes [(mo, .inr (12, [.ref mpage, .int 0, .int 0, .int 0, .int 0, .int 0, .int 0, .int 0, .ref mkeys, .ref mvalues, .ref mheights, .ref mheats, .int 0, .ref msecondKeys, .ref msecondValues, .ref msecondHeights, .ref msecondHeats, .int 0, .int 0, .int 0, .int 0, .ref msaved, .ref mbestHeights, .int 0, .ref msights, .ref mby, .int 0, .int (-1), .int 0, .int 0, .int 0, .int 0, .int 0, .int 0, .ref mkeptKeys, .ref mkeptValues, .ref mkeptHeights, .ref mkeptHeats, .ref mkeptKeys2, .ref mkeptValues2, .ref mkeptHeights2, .ref mkeptHeats2, .ref mkeptSights, .long hh]))] H := hP
  have hD : va_D A [(mo, .inr (12, [.ref mpage, .int 0, .int 0, .int 0, .int 0, .int 0, .int 0, .int 0, .ref mkeys, .ref mvalues, .ref mheights, .ref mheats, .int 0, .ref msecondKeys, .ref msecondValues, .ref msecondHeights, .ref msecondHeats, .int 0, .int 0, .int 0, .int 0, .ref msaved, .ref mbestHeights, .int 0, .ref msights, .ref mby, .int 0, .int (-1), .int 0, .int 0, .int 0, .int 0, .int 0, .int 0, .ref mkeptKeys, .ref mkeptValues, .ref mkeptHeights, .ref mkeptHeats, .ref mkeptKeys2, .ref mkeptValues2, .ref mkeptHeights2, .ref mkeptHeats2, .ref mkeptSights, .long hh]))] := hD
  refine lv_if_ne (tgt := 11) hx hb dX12_nth_5 (by decide) (fun c_4 => absurd (by decide) c_4) (fun _ => ?_)
  refine lv_bipush (v := (-101)) hx hb dX12_nth_8 (by decide) ?_
  refine W.widen (k := 0) (n := 0) (by decide) (by decide) ?_
  exact wk_iret () hx hb hr hlocks rfl hK hP hD hS [0] rfl rfl dX12_nth_10
theorem dX12_sum_0 : decode cX12_sum 0 = .ok (.iload_n 1, 1) := by decide +kernel
theorem dX12_sum_1 : decode cX12_sum 1 = .ok (.invokestatic 180, 3) := by decide +kernel
theorem dX12_sum_4 : decode cX12_sum 4 = .ok (.ifCond .eq 15, 3) := by decide +kernel
theorem dX12_sum_7 : decode cX12_sum 7 = .ok (.iload_n 2, 1) := by decide +kernel
theorem dX12_sum_8 : decode cX12_sum 8 = .ok (.invokestatic 180, 3) := by decide +kernel
theorem dX12_sum_11 : decode cX12_sum 11 = .ok (.ifCond .eq 8, 3) := by decide +kernel
theorem dX12_sum_14 : decode cX12_sum 14 = .ok (.iload_n 1, 1) := by decide +kernel
theorem dX12_sum_15 : decode cX12_sum 15 = .ok (.iload_n 2, 1) := by decide +kernel
theorem dX12_sum_16 : decode cX12_sum 16 = .ok (.if_icmp .le 6, 3) := by decide +kernel
theorem dX12_sum_19 : decode cX12_sum 19 = .ok (.bipush (-102), 2) := by decide +kernel
theorem dX12_sum_21 : decode cX12_sum 21 = .ok (.ireturn, 1) := by decide +kernel
theorem dX12_sum_22 : decode cX12_sum 22 = .ok (.aload_n 0, 1) := by decide +kernel
theorem dX12_sum_23 : decode cX12_sum 23 = .ok (.invokevirtual 185, 3) := by decide +kernel
theorem dX12_sum_26 : decode cX12_sum 26 = .ok (.ifCond .eq 6, 3) := by decide +kernel
theorem dX12_sum_29 : decode cX12_sum 29 = .ok (.bipush (-103), 2) := by decide +kernel
theorem dX12_sum_31 : decode cX12_sum 31 = .ok (.ireturn, 1) := by decide +kernel
set_option maxHeartbeats 4000000 in
set_option maxRecDepth 100000 in
theorem c_X12_sum (l : Launch) (D : va_G) (cy : ClassId) (mo mpage mkeys mvalues mheights mheats msecondKeys msecondValues msecondHeights msecondHeats msaved mbestHeights msights mby mkeptKeys mkeptValues mkeptHeights mkeptHeats mkeptKeys2 mkeptValues2 mkeptHeights2 mkeptHeats2 mkeptSights : Nat) (a b : Int32) (hh : Int64) : wk_Ci l yX12_sum cX12_sum 5 (some .int) { frames := 2, cells := 0, slots := 0, locals := 45 } D cy [.ref mo, .int a, .int b] [(mo, .inr (12, [.ref mpage, .int 0, .int 0, .int 0, .int 0, .int 0, .int 0, .int 0, .ref mkeys, .ref mvalues, .ref mheights, .ref mheats, .int 0, .ref msecondKeys, .ref msecondValues, .ref msecondHeights, .ref msecondHeats, .int 0, .int 0, .int 0, .int 0, .ref msaved, .ref mbestHeights, .int 0, .ref msights, .ref mby, .int 0, .int (-1), .int 0, .int 0, .int 0, .int 0, .int 0, .int 0, .ref mkeptKeys, .ref mkeptValues, .ref mkeptHeights, .ref mkeptHeats, .ref mkeptKeys2, .ref mkeptValues2, .ref mkeptHeights2, .ref mkeptHeats2, .ref mkeptSights, .long hh]))] 0 0 (fun (r : Int32) (u : Unit) => r = if (0 ≤ a.toInt ∧ a.toInt ≤ 99) ∧ (0 ≤ b.toInt ∧ b.toInt ≤ 99) ∧ a.toInt ≤ b.toInt then (-103) else (-102)) (fun u => [(mo, .inr (12, [.ref mpage, .int 0, .int 0, .int 0, .int 0, .int 0, .int 0, .int 0, .ref mkeys, .ref mvalues, .ref mheights, .ref mheats, .int 0, .ref msecondKeys, .ref msecondValues, .ref msecondHeights, .ref msecondHeats, .int 0, .int 0, .int 0, .int 0, .ref msaved, .ref mbestHeights, .int 0, .ref msights, .ref mby, .int 0, .int (-1), .int 0, .int 0, .int 0, .int 0, .int 0, .int 0, .ref mkeptKeys, .ref mkeptValues, .ref mkeptHeights, .ref mkeptHeats, .ref mkeptKeys2, .ref mkeptValues2, .ref mkeptHeights2, .ref mkeptHeats2, .ref mkeptSights, .long hh]))]) := by
  refine wk_mkCi (by decide) (Nat.le_of_ble_eq_true rfl) ?_
  intro p e s m below meth c A ls B hA hK hP hD hS hl
  obtain ⟨hx, hb, hr, hlocks, hml, hown, htb, hin⟩ := B
  have hl : lv_has ls 5 [(0, .ref mo), (1, .int a), (2, .int b)] := hl
  refine lv_iload_n hx hb dX12_sum_0 rfl (lv_at hl 1 rfl) ?_
  refine wk_iS (As := [.int a]) (rest := []) (wc := []) (wr := [(mo, .inr (12, [.ref mpage, .int 0, .int 0, .int 0, .int 0, .int 0, .int 0, .int 0, .ref mkeys, .ref mvalues, .ref mheights, .ref mheats, .int 0, .ref msecondKeys, .ref msecondValues, .ref msecondHeights, .ref msecondHeats, .int 0, .int 0, .int 0, .int 0, .ref msaved, .ref mbestHeights, .int 0, .ref msights, .ref mby, .int 0, .int (-1), .int 0, .int 0, .int 0, .int 0, .int 0, .int 0, .ref mkeptKeys, .ref mkeptValues, .ref mkeptHeights, .ref mkeptHeats, .ref mkeptKeys2, .ref mkeptValues2, .ref mkeptHeights2, .ref mkeptHeats2, .ref mkeptSights, .long hh]))]) (n := 1) (R := _) ⟨hx, hb, hml, hown, htb⟩ (c_X12_isKey l D cy  a ) tw_963 tw_961 tw_962 tw_71 rfl rfl (by decide +kernel) ⟨Nat.le_of_ble_eq_true rfl, Nat.le_of_ble_eq_true rfl⟩ hK hP hD hS hA [] [0] rfl rfl rfl rfl (by decide) rfl hl.1 rfl (Nat.le_of_ble_eq_true rfl) dX12_sum_1 ⟨Nat.le_of_ble_eq_true rfl, Nat.le_of_ble_eq_true rfl⟩ (fun r_1 u_2 H locs hw_3 hP hD hS => ?_)
  refine W.widen (k := 0) (n := 0) (by decide) (by decide) ?_
  have hw_3 : r_1 = if (0 ≤ a.toInt ∧ a.toInt ≤ 99) then 1 else 0 := hw_3
  subst hw_3
  have hP : va_P D classes [(mo, .inr (12, [.ref mpage, .int 0, .int 0, .int 0, .int 0, .int 0, .int 0, .int 0, .ref mkeys, .ref mvalues, .ref mheights, .ref mheats, .int 0, .ref msecondKeys, .ref msecondValues, .ref msecondHeights, .ref msecondHeats, .int 0, .int 0, .int 0, .int 0, .ref msaved, .ref mbestHeights, .int 0, .ref msights, .ref mby, .int 0, .int (-1), .int 0, .int 0, .int 0, .int 0, .int 0, .int 0, .ref mkeptKeys, .ref mkeptValues, .ref mkeptHeights, .ref mkeptHeats, .ref mkeptKeys2, .ref mkeptValues2, .ref mkeptHeights2, .ref mkeptHeats2, .ref mkeptSights, .long hh]))] H := hP
  have hD : va_D A [(mo, .inr (12, [.ref mpage, .int 0, .int 0, .int 0, .int 0, .int 0, .int 0, .int 0, .ref mkeys, .ref mvalues, .ref mheights, .ref mheats, .int 0, .ref msecondKeys, .ref msecondValues, .ref msecondHeights, .ref msecondHeats, .int 0, .int 0, .int 0, .int 0, .ref msaved, .ref mbestHeights, .int 0, .ref msights, .ref mby, .int 0, .int (-1), .int 0, .int 0, .int 0, .int 0, .int 0, .int 0, .ref mkeptKeys, .ref mkeptValues, .ref mkeptHeights, .ref mkeptHeats, .ref mkeptKeys2, .ref mkeptValues2, .ref mkeptHeights2, .ref mkeptHeats2, .ref mkeptSights, .long hh]))] := hD
  refine lv_if_eq (tgt := 19) hx hb dX12_sum_4 (by decide) (fun c_4 => ?_) (fun c_4 => ?_)
  · have k_4 : ¬ ((0 ≤ a.toInt ∧ a.toInt ≤ 99)) := wk_o0 c_4
    refine lv_bipush (v := (-102)) hx hb dX12_sum_19 (by decide) ?_
    refine W.widen (k := 0) (n := 0) (by decide) (by decide) ?_
    exact wk_iret () hx hb hr hlocks (if_neg (by omega)).symm hK hP hD hS [0] rfl rfl dX12_sum_21
  · have k_4 : (0 ≤ a.toInt ∧ a.toInt ≤ 99) := wk_o1 c_4
    refine lv_iload_n hx hb dX12_sum_7 rfl (lv_at hl 2 rfl) ?_
    refine wk_iS (As := [.int b]) (rest := []) (wc := []) (wr := [(mo, .inr (12, [.ref mpage, .int 0, .int 0, .int 0, .int 0, .int 0, .int 0, .int 0, .ref mkeys, .ref mvalues, .ref mheights, .ref mheats, .int 0, .ref msecondKeys, .ref msecondValues, .ref msecondHeights, .ref msecondHeats, .int 0, .int 0, .int 0, .int 0, .ref msaved, .ref mbestHeights, .int 0, .ref msights, .ref mby, .int 0, .int (-1), .int 0, .int 0, .int 0, .int 0, .int 0, .int 0, .ref mkeptKeys, .ref mkeptValues, .ref mkeptHeights, .ref mkeptHeats, .ref mkeptKeys2, .ref mkeptValues2, .ref mkeptHeights2, .ref mkeptHeats2, .ref mkeptSights, .long hh]))]) (n := 1) (R := _) ⟨hx, hb, hml, hown, htb⟩ (c_X12_isKey l D cy  b ) tw_963 tw_961 tw_962 tw_71 rfl rfl (by decide +kernel) ⟨Nat.le_of_ble_eq_true rfl, Nat.le_of_ble_eq_true rfl⟩ hK hP hD hS hA [] [0] rfl rfl rfl rfl (by decide) rfl hl.1 rfl (Nat.le_of_ble_eq_true rfl) dX12_sum_8 ⟨Nat.le_of_ble_eq_true rfl, Nat.le_of_ble_eq_true rfl⟩ (fun r_5 u_6 H locs hw_7 hP hD hS => ?_)
    refine W.widen (k := 0) (n := 0) (by decide) (by decide) ?_
    have hw_7 : r_5 = if (0 ≤ b.toInt ∧ b.toInt ≤ 99) then 1 else 0 := hw_7
    subst hw_7
    have hP : va_P D classes [(mo, .inr (12, [.ref mpage, .int 0, .int 0, .int 0, .int 0, .int 0, .int 0, .int 0, .ref mkeys, .ref mvalues, .ref mheights, .ref mheats, .int 0, .ref msecondKeys, .ref msecondValues, .ref msecondHeights, .ref msecondHeats, .int 0, .int 0, .int 0, .int 0, .ref msaved, .ref mbestHeights, .int 0, .ref msights, .ref mby, .int 0, .int (-1), .int 0, .int 0, .int 0, .int 0, .int 0, .int 0, .ref mkeptKeys, .ref mkeptValues, .ref mkeptHeights, .ref mkeptHeats, .ref mkeptKeys2, .ref mkeptValues2, .ref mkeptHeights2, .ref mkeptHeats2, .ref mkeptSights, .long hh]))] H := hP
    have hD : va_D A [(mo, .inr (12, [.ref mpage, .int 0, .int 0, .int 0, .int 0, .int 0, .int 0, .int 0, .ref mkeys, .ref mvalues, .ref mheights, .ref mheats, .int 0, .ref msecondKeys, .ref msecondValues, .ref msecondHeights, .ref msecondHeats, .int 0, .int 0, .int 0, .int 0, .ref msaved, .ref mbestHeights, .int 0, .ref msights, .ref mby, .int 0, .int (-1), .int 0, .int 0, .int 0, .int 0, .int 0, .int 0, .ref mkeptKeys, .ref mkeptValues, .ref mkeptHeights, .ref mkeptHeats, .ref mkeptKeys2, .ref mkeptValues2, .ref mkeptHeights2, .ref mkeptHeats2, .ref mkeptSights, .long hh]))] := hD
    refine lv_if_eq (tgt := 19) hx hb dX12_sum_11 (by decide) (fun c_8 => ?_) (fun c_8 => ?_)
    · have k_8 : ¬ ((0 ≤ b.toInt ∧ b.toInt ≤ 99)) := wk_o0 c_8
      refine lv_bipush (v := (-102)) hx hb dX12_sum_19 (by decide) ?_
      refine W.widen (k := 0) (n := 0) (by decide) (by decide) ?_
      exact wk_iret () hx hb hr hlocks (if_neg (by omega)).symm hK hP hD hS [0] rfl rfl dX12_sum_21
    · have k_8 : (0 ≤ b.toInt ∧ b.toInt ≤ 99) := wk_o1 c_8
      refine lv_iload_n hx hb dX12_sum_14 rfl (lv_at hl 1 rfl) ?_
      refine lv_iload_n hx hb dX12_sum_15 rfl (lv_at hl 2 rfl) ?_
      refine lv_icmp_le (tgt := 22) hx hb dX12_sum_16 (by decide) (fun c_9 => ?_) (fun c_9 => ?_)
      · have k_9 : a.toInt ≤ b.toInt := wk_le c_9
        refine lv_aload_n hx hb dX12_sum_22 rfl (lv_at hl 0 rfl) ?_
        refine wk_iV (As := []) (rest := []) (wc := [(mo, .inr (12, [.ref mpage, .int 0, .int 0, .int 0, .int 0, .int 0, .int 0, .int 0, .ref mkeys, .ref mvalues, .ref mheights, .ref mheats, .int 0, .ref msecondKeys, .ref msecondValues, .ref msecondHeights, .ref msecondHeats, .int 0, .int 0, .int 0, .int 0, .ref msaved, .ref mbestHeights, .int 0, .ref msights, .ref mby, .int 0, .int (-1), .int 0, .int 0, .int 0, .int 0, .int 0, .int 0, .ref mkeptKeys, .ref mkeptValues, .ref mkeptHeights, .ref mkeptHeats, .ref mkeptKeys2, .ref mkeptValues2, .ref mkeptHeights2, .ref mkeptHeats2, .ref mkeptSights, .long hh]))]) (wr := []) (n := 0) (R := _) ⟨hx, hb, hml, hown, htb⟩ (c_X12_lacks l D cy mo mpage mkeys mvalues mheights mheats msecondKeys msecondValues msecondHeights msecondHeats msaved mbestHeights msights mby mkeptKeys mkeptValues mkeptHeights mkeptHeats mkeptKeys2 mkeptValues2 mkeptHeights2 mkeptHeats2 mkeptSights  hh) tw_969 tw_966 tw_968 tw_29 tw_71 rfl rfl (by decide +kernel) ⟨Nat.le_of_ble_eq_true rfl, Nat.le_of_ble_eq_true rfl⟩ hK hP hD hS hA [0] [] rfl rfl rfl rfl (by decide) 0 (ci := 12) rfl rfl rfl hl.1 rfl (Nat.le_of_ble_eq_true rfl) dX12_sum_23 ⟨Nat.le_of_ble_eq_true rfl, Nat.le_of_ble_eq_true rfl⟩ (fun r_10 u_11 H locs hw_12 hP hD hS => ?_)
        refine W.widen (k := 0) (n := 0) (by decide) (by decide) ?_
        have hw_12 : r_10 = 1 := hw_12
        subst hw_12
        have hP : va_P D classes [(mo, .inr (12, [.ref mpage, .int 0, .int 0, .int 0, .int 0, .int 0, .int 0, .int 0, .ref mkeys, .ref mvalues, .ref mheights, .ref mheats, .int 0, .ref msecondKeys, .ref msecondValues, .ref msecondHeights, .ref msecondHeats, .int 0, .int 0, .int 0, .int 0, .ref msaved, .ref mbestHeights, .int 0, .ref msights, .ref mby, .int 0, .int (-1), .int 0, .int 0, .int 0, .int 0, .int 0, .int 0, .ref mkeptKeys, .ref mkeptValues, .ref mkeptHeights, .ref mkeptHeats, .ref mkeptKeys2, .ref mkeptValues2, .ref mkeptHeights2, .ref mkeptHeats2, .ref mkeptSights, .long hh]))] H := hP
        have hD : va_D A [(mo, .inr (12, [.ref mpage, .int 0, .int 0, .int 0, .int 0, .int 0, .int 0, .int 0, .ref mkeys, .ref mvalues, .ref mheights, .ref mheats, .int 0, .ref msecondKeys, .ref msecondValues, .ref msecondHeights, .ref msecondHeats, .int 0, .int 0, .int 0, .int 0, .ref msaved, .ref mbestHeights, .int 0, .ref msights, .ref mby, .int 0, .int (-1), .int 0, .int 0, .int 0, .int 0, .int 0, .int 0, .ref mkeptKeys, .ref mkeptValues, .ref mkeptHeights, .ref mkeptHeats, .ref mkeptKeys2, .ref mkeptValues2, .ref mkeptHeights2, .ref mkeptHeats2, .ref mkeptSights, .long hh]))] := hD
        refine lv_if_eq (tgt := 32) hx hb dX12_sum_26 (by decide) (fun c_13 => absurd c_13 (by decide)) (fun _ => ?_)
        refine lv_bipush (v := (-103)) hx hb dX12_sum_29 (by decide) ?_
        refine W.widen (k := 0) (n := 0) (by decide) (by decide) ?_
        exact wk_iret () hx hb hr hlocks (if_pos (by omega)).symm hK hP hD hS [0] rfl rfl dX12_sum_31
      · have k_9 : ¬ a.toInt ≤ b.toInt := wk_nle c_9
        refine lv_bipush (v := (-102)) hx hb dX12_sum_19 (by decide) ?_
        refine W.widen (k := 0) (n := 0) (by decide) (by decide) ?_
        exact wk_iret () hx hb hr hlocks (if_neg (by omega)).symm hK hP hD hS [0] rfl rfl dX12_sum_21
theorem dX12_finger_0 : decode cX12_finger 0 = .ok (.aload_n 0, 1) := by decide +kernel
theorem dX12_finger_1 : decode cX12_finger 1 = .ok (.iload_n 1, 1) := by decide +kernel
theorem dX12_finger_2 : decode cX12_finger 2 = .ok (.invokevirtual 192, 3) := by decide +kernel
theorem dX12_finger_5 : decode cX12_finger 5 = .ok (.ifCond .ne 6, 3) := by decide +kernel
theorem dX12_finger_8 : decode cX12_finger 8 = .ok (.bipush (-101), 2) := by decide +kernel
theorem dX12_finger_10 : decode cX12_finger 10 = .ok (.ireturn, 1) := by decide +kernel
set_option maxHeartbeats 4000000 in
set_option maxRecDepth 100000 in
theorem c_X12_finger (l : Launch) (D : va_G) (cy : ClassId) (mo mpage mkeys mvalues mheights mheats msecondKeys msecondValues msecondHeights msecondHeats msaved mbestHeights msights mby mkeptKeys mkeptValues mkeptHeights mkeptHeats mkeptKeys2 mkeptValues2 mkeptHeights2 mkeptHeats2 mkeptSights : Nat) (a b d : Int32) (hh : Int64) : wk_Ci l yX12_finger cX12_finger 4 (some .int) { frames := 2, cells := 0, slots := 0, locals := 46 } D cy [.ref mo, .int a, .int b, .int d] [(mo, .inr (12, [.ref mpage, .int 0, .int 0, .int 0, .int 0, .int 0, .int 0, .int 0, .ref mkeys, .ref mvalues, .ref mheights, .ref mheats, .int 0, .ref msecondKeys, .ref msecondValues, .ref msecondHeights, .ref msecondHeats, .int 0, .int 0, .int 0, .int 0, .ref msaved, .ref mbestHeights, .int 0, .ref msights, .ref mby, .int 0, .int (-1), .int 0, .int 0, .int 0, .int 0, .int 0, .int 0, .ref mkeptKeys, .ref mkeptValues, .ref mkeptHeights, .ref mkeptHeats, .ref mkeptKeys2, .ref mkeptValues2, .ref mkeptHeights2, .ref mkeptHeats2, .ref mkeptSights, .long hh]))] 0 0 (fun (r : Int32) (u : Unit) => r = (-101)) (fun u => [(mo, .inr (12, [.ref mpage, .int 0, .int 0, .int 0, .int 0, .int 0, .int 0, .int 0, .ref mkeys, .ref mvalues, .ref mheights, .ref mheats, .int 0, .ref msecondKeys, .ref msecondValues, .ref msecondHeights, .ref msecondHeats, .int 0, .int 0, .int 0, .int 0, .ref msaved, .ref mbestHeights, .int 0, .ref msights, .ref mby, .int 0, .int (-1), .int 0, .int 0, .int 0, .int 0, .int 0, .int 0, .ref mkeptKeys, .ref mkeptValues, .ref mkeptHeights, .ref mkeptHeats, .ref mkeptKeys2, .ref mkeptValues2, .ref mkeptHeights2, .ref mkeptHeats2, .ref mkeptSights, .long hh]))]) := by
  refine wk_mkCi (by decide) (Nat.le_of_ble_eq_true rfl) ?_
  intro p e s m below meth c A ls B hA hK hP hD hS hl
  obtain ⟨hx, hb, hr, hlocks, hml, hown, htb, hin⟩ := B
  have hl : lv_has ls 4 [(0, .ref mo), (1, .int a), (2, .int b), (3, .int d)] := hl
  refine lv_aload_n hx hb dX12_finger_0 rfl (lv_at hl 0 rfl) ?_
  refine lv_iload_n hx hb dX12_finger_1 rfl (lv_at hl 1 rfl) ?_
  refine wk_iV (As := [.int a]) (rest := []) (wc := [(mo, .inr (12, [.ref mpage, .int 0, .int 0, .int 0, .int 0, .int 0, .int 0, .int 0, .ref mkeys, .ref mvalues, .ref mheights, .ref mheats, .int 0, .ref msecondKeys, .ref msecondValues, .ref msecondHeights, .ref msecondHeats, .int 0, .int 0, .int 0, .int 0, .ref msaved, .ref mbestHeights, .int 0, .ref msights, .ref mby, .int 0, .int (-1), .int 0, .int 0, .int 0, .int 0, .int 0, .int 0, .ref mkeptKeys, .ref mkeptValues, .ref mkeptHeights, .ref mkeptHeats, .ref mkeptKeys2, .ref mkeptValues2, .ref mkeptHeights2, .ref mkeptHeats2, .ref mkeptSights, .long hh]))]) (wr := []) (n := 1) (R := _) ⟨hx, hb, hml, hown, htb⟩ (c_X12_isNumber l D cy mo mpage mkeys mvalues mheights mheats msecondKeys msecondValues msecondHeights msecondHeats msaved mbestHeights msights mby mkeptKeys mkeptValues mkeptHeights mkeptHeats mkeptKeys2 mkeptValues2 mkeptHeights2 mkeptHeats2 mkeptSights a hh) tw_997 tw_994 tw_996 tw_35 tw_71 rfl rfl (by decide +kernel) ⟨Nat.le_of_ble_eq_true rfl, Nat.le_of_ble_eq_true rfl⟩ hK hP hD hS hA [0] [] rfl rfl rfl rfl (by decide) 0 (ci := 12) rfl rfl rfl hl.1 rfl (Nat.le_of_ble_eq_true rfl) dX12_finger_2 ⟨Nat.le_of_ble_eq_true rfl, Nat.le_of_ble_eq_true rfl⟩ (fun r_1 u_2 H locs hw_3 hP hD hS => ?_)
  refine W.widen (k := 0) (n := 0) (by decide) (by decide) ?_
  have hw_3 : r_1 = 0 := hw_3
  subst hw_3
  have hP : va_P D classes [(mo, .inr (12, [.ref mpage, .int 0, .int 0, .int 0, .int 0, .int 0, .int 0, .int 0, .ref mkeys, .ref mvalues, .ref mheights, .ref mheats, .int 0, .ref msecondKeys, .ref msecondValues, .ref msecondHeights, .ref msecondHeats, .int 0, .int 0, .int 0, .int 0, .ref msaved, .ref mbestHeights, .int 0, .ref msights, .ref mby, .int 0, .int (-1), .int 0, .int 0, .int 0, .int 0, .int 0, .int 0, .ref mkeptKeys, .ref mkeptValues, .ref mkeptHeights, .ref mkeptHeats, .ref mkeptKeys2, .ref mkeptValues2, .ref mkeptHeights2, .ref mkeptHeats2, .ref mkeptSights, .long hh]))] H := hP
  have hD : va_D A [(mo, .inr (12, [.ref mpage, .int 0, .int 0, .int 0, .int 0, .int 0, .int 0, .int 0, .ref mkeys, .ref mvalues, .ref mheights, .ref mheats, .int 0, .ref msecondKeys, .ref msecondValues, .ref msecondHeights, .ref msecondHeats, .int 0, .int 0, .int 0, .int 0, .ref msaved, .ref mbestHeights, .int 0, .ref msights, .ref mby, .int 0, .int (-1), .int 0, .int 0, .int 0, .int 0, .int 0, .int 0, .ref mkeptKeys, .ref mkeptValues, .ref mkeptHeights, .ref mkeptHeats, .ref mkeptKeys2, .ref mkeptValues2, .ref mkeptHeights2, .ref mkeptHeats2, .ref mkeptSights, .long hh]))] := hD
  refine lv_if_ne (tgt := 11) hx hb dX12_finger_5 (by decide) (fun c_4 => absurd (by decide) c_4) (fun _ => ?_)
  refine lv_bipush (v := (-101)) hx hb dX12_finger_8 (by decide) ?_
  refine W.widen (k := 0) (n := 0) (by decide) (by decide) ?_
  exact wk_iret () hx hb hr hlocks rfl hK hP hD hS [0] rfl rfl dX12_finger_10
theorem dX12_ask_0 : decode cX12_ask 0 = .ok (.iload_n 1, 1) := by decide +kernel
theorem dX12_ask_1 : decode cX12_ask 1 = .ok (.invokestatic 180, 3) := by decide +kernel
theorem dX12_ask_4 : decode cX12_ask 4 = .ok (.ifCond .ne 6, 3) := by decide +kernel
theorem dX12_ask_7 : decode cX12_ask 7 = .ok (.bipush (-102), 2) := by decide +kernel
theorem dX12_ask_9 : decode cX12_ask 9 = .ok (.ireturn, 1) := by decide +kernel
theorem dX12_ask_10 : decode cX12_ask 10 = .ok (.aload_n 0, 1) := by decide +kernel
theorem dX12_ask_11 : decode cX12_ask 11 = .ok (.invokevirtual 185, 3) := by decide +kernel
theorem dX12_ask_14 : decode cX12_ask 14 = .ok (.ifCond .eq 6, 3) := by decide +kernel
theorem dX12_ask_17 : decode cX12_ask 17 = .ok (.bipush (-103), 2) := by decide +kernel
theorem dX12_ask_19 : decode cX12_ask 19 = .ok (.ireturn, 1) := by decide +kernel
set_option maxHeartbeats 4000000 in
set_option maxRecDepth 100000 in
theorem c_X12_ask (l : Launch) (D : va_G) (cy : ClassId) (mo mpage mkeys mvalues mheights mheats msecondKeys msecondValues msecondHeights msecondHeats msaved mbestHeights msights mby mkeptKeys mkeptValues mkeptHeights mkeptHeats mkeptKeys2 mkeptValues2 mkeptHeights2 mkeptHeats2 mkeptSights : Nat) (a : Int32) (hh : Int64) : wk_Ci l yX12_ask cX12_ask 2 (some .int) { frames := 2, cells := 0, slots := 0, locals := 45 } D cy [.ref mo, .int a] [(mo, .inr (12, [.ref mpage, .int 0, .int 0, .int 0, .int 0, .int 0, .int 0, .int 0, .ref mkeys, .ref mvalues, .ref mheights, .ref mheats, .int 0, .ref msecondKeys, .ref msecondValues, .ref msecondHeights, .ref msecondHeats, .int 0, .int 0, .int 0, .int 0, .ref msaved, .ref mbestHeights, .int 0, .ref msights, .ref mby, .int 0, .int (-1), .int 0, .int 0, .int 0, .int 0, .int 0, .int 0, .ref mkeptKeys, .ref mkeptValues, .ref mkeptHeights, .ref mkeptHeats, .ref mkeptKeys2, .ref mkeptValues2, .ref mkeptHeights2, .ref mkeptHeats2, .ref mkeptSights, .long hh]))] 0 0 (fun (r : Int32) (u : Unit) => r = if (0 ≤ a.toInt ∧ a.toInt ≤ 99) then (-103) else (-102)) (fun u => [(mo, .inr (12, [.ref mpage, .int 0, .int 0, .int 0, .int 0, .int 0, .int 0, .int 0, .ref mkeys, .ref mvalues, .ref mheights, .ref mheats, .int 0, .ref msecondKeys, .ref msecondValues, .ref msecondHeights, .ref msecondHeats, .int 0, .int 0, .int 0, .int 0, .ref msaved, .ref mbestHeights, .int 0, .ref msights, .ref mby, .int 0, .int (-1), .int 0, .int 0, .int 0, .int 0, .int 0, .int 0, .ref mkeptKeys, .ref mkeptValues, .ref mkeptHeights, .ref mkeptHeats, .ref mkeptKeys2, .ref mkeptValues2, .ref mkeptHeights2, .ref mkeptHeats2, .ref mkeptSights, .long hh]))]) := by
  refine wk_mkCi (by decide) (Nat.le_of_ble_eq_true rfl) ?_
  intro p e s m below meth c A ls B hA hK hP hD hS hl
  obtain ⟨hx, hb, hr, hlocks, hml, hown, htb, hin⟩ := B
  have hl : lv_has ls 2 [(0, .ref mo), (1, .int a)] := hl
  refine lv_iload_n hx hb dX12_ask_0 rfl (lv_at hl 1 rfl) ?_
  refine wk_iS (As := [.int a]) (rest := []) (wc := []) (wr := [(mo, .inr (12, [.ref mpage, .int 0, .int 0, .int 0, .int 0, .int 0, .int 0, .int 0, .ref mkeys, .ref mvalues, .ref mheights, .ref mheats, .int 0, .ref msecondKeys, .ref msecondValues, .ref msecondHeights, .ref msecondHeats, .int 0, .int 0, .int 0, .int 0, .ref msaved, .ref mbestHeights, .int 0, .ref msights, .ref mby, .int 0, .int (-1), .int 0, .int 0, .int 0, .int 0, .int 0, .int 0, .ref mkeptKeys, .ref mkeptValues, .ref mkeptHeights, .ref mkeptHeats, .ref mkeptKeys2, .ref mkeptValues2, .ref mkeptHeights2, .ref mkeptHeats2, .ref mkeptSights, .long hh]))]) (n := 1) (R := _) ⟨hx, hb, hml, hown, htb⟩ (c_X12_isKey l D cy  a ) tw_963 tw_961 tw_962 tw_71 rfl rfl (by decide +kernel) ⟨Nat.le_of_ble_eq_true rfl, Nat.le_of_ble_eq_true rfl⟩ hK hP hD hS hA [] [0] rfl rfl rfl rfl (by decide) rfl hl.1 rfl (Nat.le_of_ble_eq_true rfl) dX12_ask_1 ⟨Nat.le_of_ble_eq_true rfl, Nat.le_of_ble_eq_true rfl⟩ (fun r_1 u_2 H locs hw_3 hP hD hS => ?_)
  refine W.widen (k := 0) (n := 0) (by decide) (by decide) ?_
  have hw_3 : r_1 = if (0 ≤ a.toInt ∧ a.toInt ≤ 99) then 1 else 0 := hw_3
  subst hw_3
  have hP : va_P D classes [(mo, .inr (12, [.ref mpage, .int 0, .int 0, .int 0, .int 0, .int 0, .int 0, .int 0, .ref mkeys, .ref mvalues, .ref mheights, .ref mheats, .int 0, .ref msecondKeys, .ref msecondValues, .ref msecondHeights, .ref msecondHeats, .int 0, .int 0, .int 0, .int 0, .ref msaved, .ref mbestHeights, .int 0, .ref msights, .ref mby, .int 0, .int (-1), .int 0, .int 0, .int 0, .int 0, .int 0, .int 0, .ref mkeptKeys, .ref mkeptValues, .ref mkeptHeights, .ref mkeptHeats, .ref mkeptKeys2, .ref mkeptValues2, .ref mkeptHeights2, .ref mkeptHeats2, .ref mkeptSights, .long hh]))] H := hP
  have hD : va_D A [(mo, .inr (12, [.ref mpage, .int 0, .int 0, .int 0, .int 0, .int 0, .int 0, .int 0, .ref mkeys, .ref mvalues, .ref mheights, .ref mheats, .int 0, .ref msecondKeys, .ref msecondValues, .ref msecondHeights, .ref msecondHeats, .int 0, .int 0, .int 0, .int 0, .ref msaved, .ref mbestHeights, .int 0, .ref msights, .ref mby, .int 0, .int (-1), .int 0, .int 0, .int 0, .int 0, .int 0, .int 0, .ref mkeptKeys, .ref mkeptValues, .ref mkeptHeights, .ref mkeptHeats, .ref mkeptKeys2, .ref mkeptValues2, .ref mkeptHeights2, .ref mkeptHeats2, .ref mkeptSights, .long hh]))] := hD
  refine lv_if_ne (tgt := 10) hx hb dX12_ask_4 (by decide) (fun c_4 => ?_) (fun c_4 => ?_)
  · have k_4 : (0 ≤ a.toInt ∧ a.toInt ≤ 99) := wk_o1 c_4
    refine lv_aload_n hx hb dX12_ask_10 rfl (lv_at hl 0 rfl) ?_
    refine wk_iV (As := []) (rest := []) (wc := [(mo, .inr (12, [.ref mpage, .int 0, .int 0, .int 0, .int 0, .int 0, .int 0, .int 0, .ref mkeys, .ref mvalues, .ref mheights, .ref mheats, .int 0, .ref msecondKeys, .ref msecondValues, .ref msecondHeights, .ref msecondHeats, .int 0, .int 0, .int 0, .int 0, .ref msaved, .ref mbestHeights, .int 0, .ref msights, .ref mby, .int 0, .int (-1), .int 0, .int 0, .int 0, .int 0, .int 0, .int 0, .ref mkeptKeys, .ref mkeptValues, .ref mkeptHeights, .ref mkeptHeats, .ref mkeptKeys2, .ref mkeptValues2, .ref mkeptHeights2, .ref mkeptHeats2, .ref mkeptSights, .long hh]))]) (wr := []) (n := 0) (R := _) ⟨hx, hb, hml, hown, htb⟩ (c_X12_lacks l D cy mo mpage mkeys mvalues mheights mheats msecondKeys msecondValues msecondHeights msecondHeats msaved mbestHeights msights mby mkeptKeys mkeptValues mkeptHeights mkeptHeats mkeptKeys2 mkeptValues2 mkeptHeights2 mkeptHeats2 mkeptSights  hh) tw_969 tw_966 tw_968 tw_29 tw_71 rfl rfl (by decide +kernel) ⟨Nat.le_of_ble_eq_true rfl, Nat.le_of_ble_eq_true rfl⟩ hK hP hD hS hA [0] [] rfl rfl rfl rfl (by decide) 0 (ci := 12) rfl rfl rfl hl.1 rfl (Nat.le_of_ble_eq_true rfl) dX12_ask_11 ⟨Nat.le_of_ble_eq_true rfl, Nat.le_of_ble_eq_true rfl⟩ (fun r_5 u_6 H locs hw_7 hP hD hS => ?_)
    refine W.widen (k := 0) (n := 0) (by decide) (by decide) ?_
    have hw_7 : r_5 = 1 := hw_7
    subst hw_7
    have hP : va_P D classes [(mo, .inr (12, [.ref mpage, .int 0, .int 0, .int 0, .int 0, .int 0, .int 0, .int 0, .ref mkeys, .ref mvalues, .ref mheights, .ref mheats, .int 0, .ref msecondKeys, .ref msecondValues, .ref msecondHeights, .ref msecondHeats, .int 0, .int 0, .int 0, .int 0, .ref msaved, .ref mbestHeights, .int 0, .ref msights, .ref mby, .int 0, .int (-1), .int 0, .int 0, .int 0, .int 0, .int 0, .int 0, .ref mkeptKeys, .ref mkeptValues, .ref mkeptHeights, .ref mkeptHeats, .ref mkeptKeys2, .ref mkeptValues2, .ref mkeptHeights2, .ref mkeptHeats2, .ref mkeptSights, .long hh]))] H := hP
    have hD : va_D A [(mo, .inr (12, [.ref mpage, .int 0, .int 0, .int 0, .int 0, .int 0, .int 0, .int 0, .ref mkeys, .ref mvalues, .ref mheights, .ref mheats, .int 0, .ref msecondKeys, .ref msecondValues, .ref msecondHeights, .ref msecondHeats, .int 0, .int 0, .int 0, .int 0, .ref msaved, .ref mbestHeights, .int 0, .ref msights, .ref mby, .int 0, .int (-1), .int 0, .int 0, .int 0, .int 0, .int 0, .int 0, .ref mkeptKeys, .ref mkeptValues, .ref mkeptHeights, .ref mkeptHeats, .ref mkeptKeys2, .ref mkeptValues2, .ref mkeptHeights2, .ref mkeptHeats2, .ref mkeptSights, .long hh]))] := hD
    refine lv_if_eq (tgt := 20) hx hb dX12_ask_14 (by decide) (fun c_8 => absurd c_8 (by decide)) (fun _ => ?_)
    refine lv_bipush (v := (-103)) hx hb dX12_ask_17 (by decide) ?_
    refine W.widen (k := 0) (n := 0) (by decide) (by decide) ?_
    exact wk_iret () hx hb hr hlocks (if_pos (by omega)).symm hK hP hD hS [0] rfl rfl dX12_ask_19
  · have k_4 : ¬ ((0 ≤ a.toInt ∧ a.toInt ≤ 99)) := wk_o0 c_4
    refine lv_bipush (v := (-102)) hx hb dX12_ask_7 (by decide) ?_
    refine W.widen (k := 0) (n := 0) (by decide) (by decide) ?_
    exact wk_iret () hx hb hr hlocks (if_neg (by omega)).symm hK hP hD hS [0] rfl rfl dX12_ask_9
theorem dX12_put_0 : decode cX12_put 0 = .ok (.iload_n 1, 1) := by decide +kernel
theorem dX12_put_1 : decode cX12_put 1 = .ok (.invokestatic 180, 3) := by decide +kernel
theorem dX12_put_4 : decode cX12_put 4 = .ok (.ifCond .eq 27, 3) := by decide +kernel
theorem dX12_put_7 : decode cX12_put 7 = .ok (.iload_n 2, 1) := by decide +kernel
theorem dX12_put_8 : decode cX12_put 8 = .ok (.i2l, 1) := by decide +kernel
theorem dX12_put_9 : decode cX12_put 9 = .ok (.lconst 0, 1) := by decide +kernel
theorem dX12_put_10 : decode cX12_put 10 = .ok (.ldc2_w 248, 3) := by decide +kernel
theorem dX12_put_13 : decode cX12_put 13 = .ok (.invokestatic 82, 3) := by decide +kernel
theorem dX12_put_16 : decode cX12_put 16 = .ok (.ifCond .eq 15, 3) := by decide +kernel
theorem dX12_put_19 : decode cX12_put 19 = .ok (.iload_n 3, 1) := by decide +kernel
theorem dX12_put_20 : decode cX12_put 20 = .ok (.i2l, 1) := by decide +kernel
theorem dX12_put_21 : decode cX12_put 21 = .ok (.lconst 1, 1) := by decide +kernel
theorem dX12_put_22 : decode cX12_put 22 = .ok (.ldc2_w 235, 3) := by decide +kernel
theorem dX12_put_25 : decode cX12_put 25 = .ok (.invokestatic 82, 3) := by decide +kernel
theorem dX12_put_28 : decode cX12_put 28 = .ok (.ifCond .ne 6, 3) := by decide +kernel
theorem dX12_put_31 : decode cX12_put 31 = .ok (.bipush (-102), 2) := by decide +kernel
theorem dX12_put_33 : decode cX12_put 33 = .ok (.ireturn, 1) := by decide +kernel
theorem dX12_put_34 : decode cX12_put 34 = .ok (.aload_n 0, 1) := by decide +kernel
theorem dX12_put_35 : decode cX12_put 35 = .ok (.invokevirtual 185, 3) := by decide +kernel
theorem dX12_put_38 : decode cX12_put 38 = .ok (.ifCond .eq 6, 3) := by decide +kernel
theorem dX12_put_41 : decode cX12_put 41 = .ok (.bipush (-103), 2) := by decide +kernel
theorem dX12_put_43 : decode cX12_put 43 = .ok (.ireturn, 1) := by decide +kernel
set_option maxHeartbeats 4000000 in
set_option maxRecDepth 100000 in
theorem c_X12_put (l : Launch) (D : va_G) (cy : ClassId) (mo mpage mkeys mvalues mheights mheats msecondKeys msecondValues msecondHeights msecondHeats msaved mbestHeights msights mby mkeptKeys mkeptValues mkeptHeights mkeptHeats mkeptKeys2 mkeptValues2 mkeptHeights2 mkeptHeats2 mkeptSights : Nat) (a b d : Int32) (hh : Int64) : wk_Ci l yX12_put cX12_put 6 (some .int) { frames := 2, cells := 0, slots := 0, locals := 45 } D cy [.ref mo, .int a, .int b, .int d] [(mo, .inr (12, [.ref mpage, .int 0, .int 0, .int 0, .int 0, .int 0, .int 0, .int 0, .ref mkeys, .ref mvalues, .ref mheights, .ref mheats, .int 0, .ref msecondKeys, .ref msecondValues, .ref msecondHeights, .ref msecondHeats, .int 0, .int 0, .int 0, .int 0, .ref msaved, .ref mbestHeights, .int 0, .ref msights, .ref mby, .int 0, .int (-1), .int 0, .int 0, .int 0, .int 0, .int 0, .int 0, .ref mkeptKeys, .ref mkeptValues, .ref mkeptHeights, .ref mkeptHeats, .ref mkeptKeys2, .ref mkeptValues2, .ref mkeptHeights2, .ref mkeptHeats2, .ref mkeptSights, .long hh]))] 0 0 (fun (r : Int32) (u : Unit) => r = if (0 ≤ a.toInt ∧ a.toInt ≤ 99) ∧ (0 ≤ b.toInt ∧ b.toInt ≤ 9) ∧ (1 ≤ d.toInt ∧ d.toInt ≤ 4) then (-103) else (-102)) (fun u => [(mo, .inr (12, [.ref mpage, .int 0, .int 0, .int 0, .int 0, .int 0, .int 0, .int 0, .ref mkeys, .ref mvalues, .ref mheights, .ref mheats, .int 0, .ref msecondKeys, .ref msecondValues, .ref msecondHeights, .ref msecondHeats, .int 0, .int 0, .int 0, .int 0, .ref msaved, .ref mbestHeights, .int 0, .ref msights, .ref mby, .int 0, .int (-1), .int 0, .int 0, .int 0, .int 0, .int 0, .int 0, .ref mkeptKeys, .ref mkeptValues, .ref mkeptHeights, .ref mkeptHeats, .ref mkeptKeys2, .ref mkeptValues2, .ref mkeptHeights2, .ref mkeptHeats2, .ref mkeptSights, .long hh]))]) := by
  refine wk_mkCi (by decide) (Nat.le_of_ble_eq_true rfl) ?_
  intro p e s m below meth c A ls B hA hK hP hD hS hl
  obtain ⟨hx, hb, hr, hlocks, hml, hown, htb, hin⟩ := B
  have hl : lv_has ls 6 [(0, .ref mo), (1, .int a), (2, .int b), (3, .int d)] := hl
  refine lv_iload_n hx hb dX12_put_0 rfl (lv_at hl 1 rfl) ?_
  refine wk_iS (As := [.int a]) (rest := []) (wc := []) (wr := [(mo, .inr (12, [.ref mpage, .int 0, .int 0, .int 0, .int 0, .int 0, .int 0, .int 0, .ref mkeys, .ref mvalues, .ref mheights, .ref mheats, .int 0, .ref msecondKeys, .ref msecondValues, .ref msecondHeights, .ref msecondHeats, .int 0, .int 0, .int 0, .int 0, .ref msaved, .ref mbestHeights, .int 0, .ref msights, .ref mby, .int 0, .int (-1), .int 0, .int 0, .int 0, .int 0, .int 0, .int 0, .ref mkeptKeys, .ref mkeptValues, .ref mkeptHeights, .ref mkeptHeats, .ref mkeptKeys2, .ref mkeptValues2, .ref mkeptHeights2, .ref mkeptHeats2, .ref mkeptSights, .long hh]))]) (n := 1) (R := _) ⟨hx, hb, hml, hown, htb⟩ (c_X12_isKey l D cy  a ) tw_963 tw_961 tw_962 tw_71 rfl rfl (by decide +kernel) ⟨Nat.le_of_ble_eq_true rfl, Nat.le_of_ble_eq_true rfl⟩ hK hP hD hS hA [] [0] rfl rfl rfl rfl (by decide) rfl hl.1 rfl (Nat.le_of_ble_eq_true rfl) dX12_put_1 ⟨Nat.le_of_ble_eq_true rfl, Nat.le_of_ble_eq_true rfl⟩ (fun r_1 u_2 H locs hw_3 hP hD hS => ?_)
  refine W.widen (k := 0) (n := 0) (by decide) (by decide) ?_
  have hw_3 : r_1 = if (0 ≤ a.toInt ∧ a.toInt ≤ 99) then 1 else 0 := hw_3
  subst hw_3
  have hP : va_P D classes [(mo, .inr (12, [.ref mpage, .int 0, .int 0, .int 0, .int 0, .int 0, .int 0, .int 0, .ref mkeys, .ref mvalues, .ref mheights, .ref mheats, .int 0, .ref msecondKeys, .ref msecondValues, .ref msecondHeights, .ref msecondHeats, .int 0, .int 0, .int 0, .int 0, .ref msaved, .ref mbestHeights, .int 0, .ref msights, .ref mby, .int 0, .int (-1), .int 0, .int 0, .int 0, .int 0, .int 0, .int 0, .ref mkeptKeys, .ref mkeptValues, .ref mkeptHeights, .ref mkeptHeats, .ref mkeptKeys2, .ref mkeptValues2, .ref mkeptHeights2, .ref mkeptHeats2, .ref mkeptSights, .long hh]))] H := hP
  have hD : va_D A [(mo, .inr (12, [.ref mpage, .int 0, .int 0, .int 0, .int 0, .int 0, .int 0, .int 0, .ref mkeys, .ref mvalues, .ref mheights, .ref mheats, .int 0, .ref msecondKeys, .ref msecondValues, .ref msecondHeights, .ref msecondHeats, .int 0, .int 0, .int 0, .int 0, .ref msaved, .ref mbestHeights, .int 0, .ref msights, .ref mby, .int 0, .int (-1), .int 0, .int 0, .int 0, .int 0, .int 0, .int 0, .ref mkeptKeys, .ref mkeptValues, .ref mkeptHeights, .ref mkeptHeats, .ref mkeptKeys2, .ref mkeptValues2, .ref mkeptHeights2, .ref mkeptHeats2, .ref mkeptSights, .long hh]))] := hD
  refine lv_if_eq (tgt := 31) hx hb dX12_put_4 (by decide) (fun c_4 => ?_) (fun c_4 => ?_)
  · have k_4 : ¬ ((0 ≤ a.toInt ∧ a.toInt ≤ 99)) := wk_o0 c_4
    refine lv_bipush (v := (-102)) hx hb dX12_put_31 (by decide) ?_
    refine W.widen (k := 0) (n := 0) (by decide) (by decide) ?_
    exact wk_iret () hx hb hr hlocks (if_neg (by omega)).symm hK hP hD hS [0] rfl rfl dX12_put_33
  · have k_4 : (0 ≤ a.toInt ∧ a.toInt ≤ 99) := wk_o1 c_4
    refine lv_iload_n hx hb dX12_put_7 rfl (lv_at hl 2 rfl) ?_
    refine lv_i2l (v := b.toInt64) hx hb dX12_put_8 rfl ?_
    refine lv_lconst (v := 0) hx hb dX12_put_9 (by decide) ?_
    refine lv_ldc2 (v := 9) hx hb hown (htb _ tw_1092) dX12_put_10 ?_
    refine wk_iS (As := [.long b.toInt64, .long 0, .long 9]) (rest := []) (wc := []) (wr := [(mo, .inr (12, [.ref mpage, .int 0, .int 0, .int 0, .int 0, .int 0, .int 0, .int 0, .ref mkeys, .ref mvalues, .ref mheights, .ref mheats, .int 0, .ref msecondKeys, .ref msecondValues, .ref msecondHeights, .ref msecondHeats, .int 0, .int 0, .int 0, .int 0, .ref msaved, .ref mbestHeights, .int 0, .ref msights, .ref mby, .int 0, .int (-1), .int 0, .int 0, .int 0, .int 0, .int 0, .int 0, .ref mkeptKeys, .ref mkeptValues, .ref mkeptHeights, .ref mkeptHeats, .ref mkeptKeys2, .ref mkeptValues2, .ref mkeptHeights2, .ref mkeptHeats2, .ref mkeptSights, .long hh]))]) (n := 3) (R := _) ⟨hx, hb, hml, hown, htb⟩ (c_X12_in l D cy   b.toInt64 0 9) tw_903 tw_901 tw_902 tw_71 rfl rfl (by decide +kernel) ⟨Nat.le_of_ble_eq_true rfl, Nat.le_of_ble_eq_true rfl⟩ hK hP hD hS hA [] [0] rfl rfl rfl rfl (by decide) rfl hl.1 rfl (Nat.le_of_ble_eq_true rfl) dX12_put_13 ⟨Nat.le_of_ble_eq_true rfl, Nat.le_of_ble_eq_true rfl⟩ (fun r_5 u_6 H locs hw_7 hP hD hS => ?_)
    refine W.widen (k := 0) (n := 0) (by decide) (by decide) ?_
    have hw_7 : r_5 = wk_in b.toInt64 0 9 := hw_7
    subst hw_7
    have hP : va_P D classes [(mo, .inr (12, [.ref mpage, .int 0, .int 0, .int 0, .int 0, .int 0, .int 0, .int 0, .ref mkeys, .ref mvalues, .ref mheights, .ref mheats, .int 0, .ref msecondKeys, .ref msecondValues, .ref msecondHeights, .ref msecondHeats, .int 0, .int 0, .int 0, .int 0, .ref msaved, .ref mbestHeights, .int 0, .ref msights, .ref mby, .int 0, .int (-1), .int 0, .int 0, .int 0, .int 0, .int 0, .int 0, .ref mkeptKeys, .ref mkeptValues, .ref mkeptHeights, .ref mkeptHeats, .ref mkeptKeys2, .ref mkeptValues2, .ref mkeptHeights2, .ref mkeptHeats2, .ref mkeptSights, .long hh]))] H := hP
    have hD : va_D A [(mo, .inr (12, [.ref mpage, .int 0, .int 0, .int 0, .int 0, .int 0, .int 0, .int 0, .ref mkeys, .ref mvalues, .ref mheights, .ref mheats, .int 0, .ref msecondKeys, .ref msecondValues, .ref msecondHeights, .ref msecondHeats, .int 0, .int 0, .int 0, .int 0, .ref msaved, .ref mbestHeights, .int 0, .ref msights, .ref mby, .int 0, .int (-1), .int 0, .int 0, .int 0, .int 0, .int 0, .int 0, .ref mkeptKeys, .ref mkeptValues, .ref mkeptHeights, .ref mkeptHeats, .ref mkeptKeys2, .ref mkeptValues2, .ref mkeptHeights2, .ref mkeptHeats2, .ref mkeptSights, .long hh]))] := hD
    refine lv_if_eq (tgt := 31) hx hb dX12_put_16 (by decide) (fun c_8 => ?_) (fun c_8 => ?_)
    · have k_8 : ¬ (0 ≤ b.toInt ∧ b.toInt ≤ 9) := by have h9 := wk_in0 c_8; simp only [wk_64] at h9; exact h9
      refine lv_bipush (v := (-102)) hx hb dX12_put_31 (by decide) ?_
      refine W.widen (k := 0) (n := 0) (by decide) (by decide) ?_
      exact wk_iret () hx hb hr hlocks (if_neg (by omega)).symm hK hP hD hS [0] rfl rfl dX12_put_33
    · have k_8 : 0 ≤ b.toInt ∧ b.toInt ≤ 9 := by have h9 := wk_in1 c_8; simp only [wk_64] at h9; exact h9
      refine lv_iload_n hx hb dX12_put_19 rfl (lv_at hl 3 rfl) ?_
      refine lv_i2l (v := d.toInt64) hx hb dX12_put_20 rfl ?_
      refine lv_lconst (v := 1) hx hb dX12_put_21 (by decide) ?_
      refine lv_ldc2 (v := 4) hx hb hown (htb _ tw_1075) dX12_put_22 ?_
      refine wk_iS (As := [.long d.toInt64, .long 1, .long 4]) (rest := []) (wc := []) (wr := [(mo, .inr (12, [.ref mpage, .int 0, .int 0, .int 0, .int 0, .int 0, .int 0, .int 0, .ref mkeys, .ref mvalues, .ref mheights, .ref mheats, .int 0, .ref msecondKeys, .ref msecondValues, .ref msecondHeights, .ref msecondHeats, .int 0, .int 0, .int 0, .int 0, .ref msaved, .ref mbestHeights, .int 0, .ref msights, .ref mby, .int 0, .int (-1), .int 0, .int 0, .int 0, .int 0, .int 0, .int 0, .ref mkeptKeys, .ref mkeptValues, .ref mkeptHeights, .ref mkeptHeats, .ref mkeptKeys2, .ref mkeptValues2, .ref mkeptHeights2, .ref mkeptHeats2, .ref mkeptSights, .long hh]))]) (n := 3) (R := _) ⟨hx, hb, hml, hown, htb⟩ (c_X12_in l D cy   d.toInt64 1 4) tw_903 tw_901 tw_902 tw_71 rfl rfl (by decide +kernel) ⟨Nat.le_of_ble_eq_true rfl, Nat.le_of_ble_eq_true rfl⟩ hK hP hD hS hA [] [0] rfl rfl rfl rfl (by decide) rfl hl.1 rfl (Nat.le_of_ble_eq_true rfl) dX12_put_25 ⟨Nat.le_of_ble_eq_true rfl, Nat.le_of_ble_eq_true rfl⟩ (fun r_9 u_10 H locs hw_11 hP hD hS => ?_)
      refine W.widen (k := 0) (n := 0) (by decide) (by decide) ?_
      have hw_11 : r_9 = wk_in d.toInt64 1 4 := hw_11
      subst hw_11
      have hP : va_P D classes [(mo, .inr (12, [.ref mpage, .int 0, .int 0, .int 0, .int 0, .int 0, .int 0, .int 0, .ref mkeys, .ref mvalues, .ref mheights, .ref mheats, .int 0, .ref msecondKeys, .ref msecondValues, .ref msecondHeights, .ref msecondHeats, .int 0, .int 0, .int 0, .int 0, .ref msaved, .ref mbestHeights, .int 0, .ref msights, .ref mby, .int 0, .int (-1), .int 0, .int 0, .int 0, .int 0, .int 0, .int 0, .ref mkeptKeys, .ref mkeptValues, .ref mkeptHeights, .ref mkeptHeats, .ref mkeptKeys2, .ref mkeptValues2, .ref mkeptHeights2, .ref mkeptHeats2, .ref mkeptSights, .long hh]))] H := hP
      have hD : va_D A [(mo, .inr (12, [.ref mpage, .int 0, .int 0, .int 0, .int 0, .int 0, .int 0, .int 0, .ref mkeys, .ref mvalues, .ref mheights, .ref mheats, .int 0, .ref msecondKeys, .ref msecondValues, .ref msecondHeights, .ref msecondHeats, .int 0, .int 0, .int 0, .int 0, .ref msaved, .ref mbestHeights, .int 0, .ref msights, .ref mby, .int 0, .int (-1), .int 0, .int 0, .int 0, .int 0, .int 0, .int 0, .ref mkeptKeys, .ref mkeptValues, .ref mkeptHeights, .ref mkeptHeats, .ref mkeptKeys2, .ref mkeptValues2, .ref mkeptHeights2, .ref mkeptHeats2, .ref mkeptSights, .long hh]))] := hD
      refine lv_if_ne (tgt := 34) hx hb dX12_put_28 (by decide) (fun c_12 => ?_) (fun c_12 => ?_)
      · have k_12 : 1 ≤ d.toInt ∧ d.toInt ≤ 4 := by have h9 := wk_in1 c_12; simp only [wk_64] at h9; exact h9
        refine lv_aload_n hx hb dX12_put_34 rfl (lv_at hl 0 rfl) ?_
        refine wk_iV (As := []) (rest := []) (wc := [(mo, .inr (12, [.ref mpage, .int 0, .int 0, .int 0, .int 0, .int 0, .int 0, .int 0, .ref mkeys, .ref mvalues, .ref mheights, .ref mheats, .int 0, .ref msecondKeys, .ref msecondValues, .ref msecondHeights, .ref msecondHeats, .int 0, .int 0, .int 0, .int 0, .ref msaved, .ref mbestHeights, .int 0, .ref msights, .ref mby, .int 0, .int (-1), .int 0, .int 0, .int 0, .int 0, .int 0, .int 0, .ref mkeptKeys, .ref mkeptValues, .ref mkeptHeights, .ref mkeptHeats, .ref mkeptKeys2, .ref mkeptValues2, .ref mkeptHeights2, .ref mkeptHeats2, .ref mkeptSights, .long hh]))]) (wr := []) (n := 0) (R := _) ⟨hx, hb, hml, hown, htb⟩ (c_X12_lacks l D cy mo mpage mkeys mvalues mheights mheats msecondKeys msecondValues msecondHeights msecondHeats msaved mbestHeights msights mby mkeptKeys mkeptValues mkeptHeights mkeptHeats mkeptKeys2 mkeptValues2 mkeptHeights2 mkeptHeats2 mkeptSights  hh) tw_969 tw_966 tw_968 tw_29 tw_71 rfl rfl (by decide +kernel) ⟨Nat.le_of_ble_eq_true rfl, Nat.le_of_ble_eq_true rfl⟩ hK hP hD hS hA [0] [] rfl rfl rfl rfl (by decide) 0 (ci := 12) rfl rfl rfl hl.1 rfl (Nat.le_of_ble_eq_true rfl) dX12_put_35 ⟨Nat.le_of_ble_eq_true rfl, Nat.le_of_ble_eq_true rfl⟩ (fun r_13 u_14 H locs hw_15 hP hD hS => ?_)
        refine W.widen (k := 0) (n := 0) (by decide) (by decide) ?_
        have hw_15 : r_13 = 1 := hw_15
        subst hw_15
        have hP : va_P D classes [(mo, .inr (12, [.ref mpage, .int 0, .int 0, .int 0, .int 0, .int 0, .int 0, .int 0, .ref mkeys, .ref mvalues, .ref mheights, .ref mheats, .int 0, .ref msecondKeys, .ref msecondValues, .ref msecondHeights, .ref msecondHeats, .int 0, .int 0, .int 0, .int 0, .ref msaved, .ref mbestHeights, .int 0, .ref msights, .ref mby, .int 0, .int (-1), .int 0, .int 0, .int 0, .int 0, .int 0, .int 0, .ref mkeptKeys, .ref mkeptValues, .ref mkeptHeights, .ref mkeptHeats, .ref mkeptKeys2, .ref mkeptValues2, .ref mkeptHeights2, .ref mkeptHeats2, .ref mkeptSights, .long hh]))] H := hP
        have hD : va_D A [(mo, .inr (12, [.ref mpage, .int 0, .int 0, .int 0, .int 0, .int 0, .int 0, .int 0, .ref mkeys, .ref mvalues, .ref mheights, .ref mheats, .int 0, .ref msecondKeys, .ref msecondValues, .ref msecondHeights, .ref msecondHeats, .int 0, .int 0, .int 0, .int 0, .ref msaved, .ref mbestHeights, .int 0, .ref msights, .ref mby, .int 0, .int (-1), .int 0, .int 0, .int 0, .int 0, .int 0, .int 0, .ref mkeptKeys, .ref mkeptValues, .ref mkeptHeights, .ref mkeptHeats, .ref mkeptKeys2, .ref mkeptValues2, .ref mkeptHeights2, .ref mkeptHeats2, .ref mkeptSights, .long hh]))] := hD
        refine lv_if_eq (tgt := 44) hx hb dX12_put_38 (by decide) (fun c_16 => absurd c_16 (by decide)) (fun _ => ?_)
        refine lv_bipush (v := (-103)) hx hb dX12_put_41 (by decide) ?_
        refine W.widen (k := 0) (n := 0) (by decide) (by decide) ?_
        exact wk_iret () hx hb hr hlocks (if_pos (by omega)).symm hK hP hD hS [0] rfl rfl dX12_put_43
      · have k_12 : ¬ (1 ≤ d.toInt ∧ d.toInt ≤ 4) := by have h9 := wk_in0 c_12; simp only [wk_64] at h9; exact h9
        refine lv_bipush (v := (-102)) hx hb dX12_put_31 (by decide) ?_
        refine W.widen (k := 0) (n := 0) (by decide) (by decide) ?_
        exact wk_iret () hx hb hr hlocks (if_neg (by omega)).symm hK hP hD hS [0] rfl rfl dX12_put_33
theorem dX12_remove_0 : decode cX12_remove 0 = .ok (.iload_n 1, 1) := by decide +kernel
theorem dX12_remove_1 : decode cX12_remove 1 = .ok (.invokestatic 180, 3) := by decide +kernel
theorem dX12_remove_4 : decode cX12_remove 4 = .ok (.ifCond .ne 6, 3) := by decide +kernel
theorem dX12_remove_7 : decode cX12_remove 7 = .ok (.bipush (-102), 2) := by decide +kernel
theorem dX12_remove_9 : decode cX12_remove 9 = .ok (.ireturn, 1) := by decide +kernel
theorem dX12_remove_10 : decode cX12_remove 10 = .ok (.aload_n 0, 1) := by decide +kernel
theorem dX12_remove_11 : decode cX12_remove 11 = .ok (.invokevirtual 185, 3) := by decide +kernel
theorem dX12_remove_14 : decode cX12_remove 14 = .ok (.ifCond .ne 19, 3) := by decide +kernel
theorem dX12_remove_33 : decode cX12_remove 33 = .ok (.bipush (-103), 2) := by decide +kernel
theorem dX12_remove_35 : decode cX12_remove 35 = .ok (.ireturn, 1) := by decide +kernel
set_option maxHeartbeats 4000000 in
set_option maxRecDepth 100000 in
theorem c_X12_remove (l : Launch) (D : va_G) (cy : ClassId) (mo mpage mkeys mvalues mheights mheats msecondKeys msecondValues msecondHeights msecondHeats msaved mbestHeights msights mby mkeptKeys mkeptValues mkeptHeights mkeptHeats mkeptKeys2 mkeptValues2 mkeptHeights2 mkeptHeats2 mkeptSights : Nat) (a : Int32) (hh : Int64) : wk_Ci l yX12_remove cX12_remove 4 (some .int) { frames := 2, cells := 0, slots := 0, locals := 45 } D cy [.ref mo, .int a] [(mo, .inr (12, [.ref mpage, .int 0, .int 0, .int 0, .int 0, .int 0, .int 0, .int 0, .ref mkeys, .ref mvalues, .ref mheights, .ref mheats, .int 0, .ref msecondKeys, .ref msecondValues, .ref msecondHeights, .ref msecondHeats, .int 0, .int 0, .int 0, .int 0, .ref msaved, .ref mbestHeights, .int 0, .ref msights, .ref mby, .int 0, .int (-1), .int 0, .int 0, .int 0, .int 0, .int 0, .int 0, .ref mkeptKeys, .ref mkeptValues, .ref mkeptHeights, .ref mkeptHeats, .ref mkeptKeys2, .ref mkeptValues2, .ref mkeptHeights2, .ref mkeptHeats2, .ref mkeptSights, .long hh]))] 0 0 (fun (r : Int32) (u : Unit) => r = if (0 ≤ a.toInt ∧ a.toInt ≤ 99) then (-103) else (-102)) (fun u => [(mo, .inr (12, [.ref mpage, .int 0, .int 0, .int 0, .int 0, .int 0, .int 0, .int 0, .ref mkeys, .ref mvalues, .ref mheights, .ref mheats, .int 0, .ref msecondKeys, .ref msecondValues, .ref msecondHeights, .ref msecondHeats, .int 0, .int 0, .int 0, .int 0, .ref msaved, .ref mbestHeights, .int 0, .ref msights, .ref mby, .int 0, .int (-1), .int 0, .int 0, .int 0, .int 0, .int 0, .int 0, .ref mkeptKeys, .ref mkeptValues, .ref mkeptHeights, .ref mkeptHeats, .ref mkeptKeys2, .ref mkeptValues2, .ref mkeptHeights2, .ref mkeptHeats2, .ref mkeptSights, .long hh]))]) := by
  refine wk_mkCi (by decide) (Nat.le_of_ble_eq_true rfl) ?_
  intro p e s m below meth c A ls B hA hK hP hD hS hl
  obtain ⟨hx, hb, hr, hlocks, hml, hown, htb, hin⟩ := B
  have hl : lv_has ls 4 [(0, .ref mo), (1, .int a)] := hl
  refine lv_iload_n hx hb dX12_remove_0 rfl (lv_at hl 1 rfl) ?_
  refine wk_iS (As := [.int a]) (rest := []) (wc := []) (wr := [(mo, .inr (12, [.ref mpage, .int 0, .int 0, .int 0, .int 0, .int 0, .int 0, .int 0, .ref mkeys, .ref mvalues, .ref mheights, .ref mheats, .int 0, .ref msecondKeys, .ref msecondValues, .ref msecondHeights, .ref msecondHeats, .int 0, .int 0, .int 0, .int 0, .ref msaved, .ref mbestHeights, .int 0, .ref msights, .ref mby, .int 0, .int (-1), .int 0, .int 0, .int 0, .int 0, .int 0, .int 0, .ref mkeptKeys, .ref mkeptValues, .ref mkeptHeights, .ref mkeptHeats, .ref mkeptKeys2, .ref mkeptValues2, .ref mkeptHeights2, .ref mkeptHeats2, .ref mkeptSights, .long hh]))]) (n := 1) (R := _) ⟨hx, hb, hml, hown, htb⟩ (c_X12_isKey l D cy  a ) tw_963 tw_961 tw_962 tw_71 rfl rfl (by decide +kernel) ⟨Nat.le_of_ble_eq_true rfl, Nat.le_of_ble_eq_true rfl⟩ hK hP hD hS hA [] [0] rfl rfl rfl rfl (by decide) rfl hl.1 rfl (Nat.le_of_ble_eq_true rfl) dX12_remove_1 ⟨Nat.le_of_ble_eq_true rfl, Nat.le_of_ble_eq_true rfl⟩ (fun r_1 u_2 H locs hw_3 hP hD hS => ?_)
  refine W.widen (k := 0) (n := 0) (by decide) (by decide) ?_
  have hw_3 : r_1 = if (0 ≤ a.toInt ∧ a.toInt ≤ 99) then 1 else 0 := hw_3
  subst hw_3
  have hP : va_P D classes [(mo, .inr (12, [.ref mpage, .int 0, .int 0, .int 0, .int 0, .int 0, .int 0, .int 0, .ref mkeys, .ref mvalues, .ref mheights, .ref mheats, .int 0, .ref msecondKeys, .ref msecondValues, .ref msecondHeights, .ref msecondHeats, .int 0, .int 0, .int 0, .int 0, .ref msaved, .ref mbestHeights, .int 0, .ref msights, .ref mby, .int 0, .int (-1), .int 0, .int 0, .int 0, .int 0, .int 0, .int 0, .ref mkeptKeys, .ref mkeptValues, .ref mkeptHeights, .ref mkeptHeats, .ref mkeptKeys2, .ref mkeptValues2, .ref mkeptHeights2, .ref mkeptHeats2, .ref mkeptSights, .long hh]))] H := hP
  have hD : va_D A [(mo, .inr (12, [.ref mpage, .int 0, .int 0, .int 0, .int 0, .int 0, .int 0, .int 0, .ref mkeys, .ref mvalues, .ref mheights, .ref mheats, .int 0, .ref msecondKeys, .ref msecondValues, .ref msecondHeights, .ref msecondHeats, .int 0, .int 0, .int 0, .int 0, .ref msaved, .ref mbestHeights, .int 0, .ref msights, .ref mby, .int 0, .int (-1), .int 0, .int 0, .int 0, .int 0, .int 0, .int 0, .ref mkeptKeys, .ref mkeptValues, .ref mkeptHeights, .ref mkeptHeats, .ref mkeptKeys2, .ref mkeptValues2, .ref mkeptHeights2, .ref mkeptHeats2, .ref mkeptSights, .long hh]))] := hD
  refine lv_if_ne (tgt := 10) hx hb dX12_remove_4 (by decide) (fun c_4 => ?_) (fun c_4 => ?_)
  · have k_4 : (0 ≤ a.toInt ∧ a.toInt ≤ 99) := wk_o1 c_4
    refine lv_aload_n hx hb dX12_remove_10 rfl (lv_at hl 0 rfl) ?_
    refine wk_iV (As := []) (rest := []) (wc := [(mo, .inr (12, [.ref mpage, .int 0, .int 0, .int 0, .int 0, .int 0, .int 0, .int 0, .ref mkeys, .ref mvalues, .ref mheights, .ref mheats, .int 0, .ref msecondKeys, .ref msecondValues, .ref msecondHeights, .ref msecondHeats, .int 0, .int 0, .int 0, .int 0, .ref msaved, .ref mbestHeights, .int 0, .ref msights, .ref mby, .int 0, .int (-1), .int 0, .int 0, .int 0, .int 0, .int 0, .int 0, .ref mkeptKeys, .ref mkeptValues, .ref mkeptHeights, .ref mkeptHeats, .ref mkeptKeys2, .ref mkeptValues2, .ref mkeptHeights2, .ref mkeptHeats2, .ref mkeptSights, .long hh]))]) (wr := []) (n := 0) (R := _) ⟨hx, hb, hml, hown, htb⟩ (c_X12_lacks l D cy mo mpage mkeys mvalues mheights mheats msecondKeys msecondValues msecondHeights msecondHeats msaved mbestHeights msights mby mkeptKeys mkeptValues mkeptHeights mkeptHeats mkeptKeys2 mkeptValues2 mkeptHeights2 mkeptHeats2 mkeptSights  hh) tw_969 tw_966 tw_968 tw_29 tw_71 rfl rfl (by decide +kernel) ⟨Nat.le_of_ble_eq_true rfl, Nat.le_of_ble_eq_true rfl⟩ hK hP hD hS hA [0] [] rfl rfl rfl rfl (by decide) 0 (ci := 12) rfl rfl rfl hl.1 rfl (Nat.le_of_ble_eq_true rfl) dX12_remove_11 ⟨Nat.le_of_ble_eq_true rfl, Nat.le_of_ble_eq_true rfl⟩ (fun r_5 u_6 H locs hw_7 hP hD hS => ?_)
    refine W.widen (k := 0) (n := 0) (by decide) (by decide) ?_
    have hw_7 : r_5 = 1 := hw_7
    subst hw_7
    have hP : va_P D classes [(mo, .inr (12, [.ref mpage, .int 0, .int 0, .int 0, .int 0, .int 0, .int 0, .int 0, .ref mkeys, .ref mvalues, .ref mheights, .ref mheats, .int 0, .ref msecondKeys, .ref msecondValues, .ref msecondHeights, .ref msecondHeats, .int 0, .int 0, .int 0, .int 0, .ref msaved, .ref mbestHeights, .int 0, .ref msights, .ref mby, .int 0, .int (-1), .int 0, .int 0, .int 0, .int 0, .int 0, .int 0, .ref mkeptKeys, .ref mkeptValues, .ref mkeptHeights, .ref mkeptHeats, .ref mkeptKeys2, .ref mkeptValues2, .ref mkeptHeights2, .ref mkeptHeats2, .ref mkeptSights, .long hh]))] H := hP
    have hD : va_D A [(mo, .inr (12, [.ref mpage, .int 0, .int 0, .int 0, .int 0, .int 0, .int 0, .int 0, .ref mkeys, .ref mvalues, .ref mheights, .ref mheats, .int 0, .ref msecondKeys, .ref msecondValues, .ref msecondHeights, .ref msecondHeats, .int 0, .int 0, .int 0, .int 0, .ref msaved, .ref mbestHeights, .int 0, .ref msights, .ref mby, .int 0, .int (-1), .int 0, .int 0, .int 0, .int 0, .int 0, .int 0, .ref mkeptKeys, .ref mkeptValues, .ref mkeptHeights, .ref mkeptHeats, .ref mkeptKeys2, .ref mkeptValues2, .ref mkeptHeights2, .ref mkeptHeats2, .ref mkeptSights, .long hh]))] := hD
    refine lv_if_ne (tgt := 33) hx hb dX12_remove_14 (by decide) (fun _ => ?_) (fun c_8 => absurd c_8 (by decide))
    refine lv_bipush (v := (-103)) hx hb dX12_remove_33 (by decide) ?_
    refine W.widen (k := 0) (n := 0) (by decide) (by decide) ?_
    exact wk_iret () hx hb hr hlocks (if_pos (by omega)).symm hK hP hD hS [0] rfl rfl dX12_remove_35
  · have k_4 : ¬ ((0 ≤ a.toInt ∧ a.toInt ≤ 99)) := wk_o0 c_4
    refine lv_bipush (v := (-102)) hx hb dX12_remove_7 (by decide) ?_
    refine W.widen (k := 0) (n := 0) (by decide) (by decide) ?_
    exact wk_iret () hx hb hr hlocks (if_neg (by omega)).symm hK hP hD hS [0] rfl rfl dX12_remove_9
theorem dX12_split_0 : decode cX12_split 0 = .ok (.iload_n 1, 1) := by decide +kernel
theorem dX12_split_1 : decode cX12_split 1 = .ok (.invokestatic 180, 3) := by decide +kernel
theorem dX12_split_4 : decode cX12_split 4 = .ok (.ifCond .ne 6, 3) := by decide +kernel
theorem dX12_split_7 : decode cX12_split 7 = .ok (.bipush (-102), 2) := by decide +kernel
theorem dX12_split_9 : decode cX12_split 9 = .ok (.ireturn, 1) := by decide +kernel
theorem dX12_split_10 : decode cX12_split 10 = .ok (.aload_n 0, 1) := by decide +kernel
theorem dX12_split_11 : decode cX12_split 11 = .ok (.iload_n 1, 1) := by decide +kernel
theorem dX12_split_12 : decode cX12_split 12 = .ok (.invokevirtual 245, 3) := by decide +kernel
theorem dX12_split_15 : decode cX12_split 15 = .ok (.istore_n 2, 1) := by decide +kernel
theorem dX12_split_16 : decode cX12_split 16 = .ok (.aload_n 0, 1) := by decide +kernel
theorem dX12_split_17 : decode cX12_split 17 = .ok (.invokevirtual 185, 3) := by decide +kernel
theorem dX12_split_20 : decode cX12_split 20 = .ok (.ifCond .ne 23, 3) := by decide +kernel
theorem dX12_split_43 : decode cX12_split 43 = .ok (.bipush (-103), 2) := by decide +kernel
theorem dX12_split_45 : decode cX12_split 45 = .ok (.ireturn, 1) := by decide +kernel
set_option maxHeartbeats 4000000 in
set_option maxRecDepth 100000 in
theorem c_X12_split (l : Launch) (D : va_G) (cy : ClassId) (mo mpage mkeys mvalues mheights mheats msecondKeys msecondValues msecondHeights msecondHeats msaved mbestHeights msights mby mkeptKeys mkeptValues mkeptHeights mkeptHeats mkeptKeys2 mkeptValues2 mkeptHeights2 mkeptHeats2 mkeptSights : Nat) (a : Int32) (hh : Int64) : wk_Ci l yX12_split cX12_split 4 (some .int) { frames := 2, cells := 0, slots := 0, locals := 45 } D cy [.ref mo, .int a] [(mo, .inr (12, [.ref mpage, .int 0, .int 0, .int 0, .int 0, .int 0, .int 0, .int 0, .ref mkeys, .ref mvalues, .ref mheights, .ref mheats, .int 0, .ref msecondKeys, .ref msecondValues, .ref msecondHeights, .ref msecondHeats, .int 0, .int 0, .int 0, .int 0, .ref msaved, .ref mbestHeights, .int 0, .ref msights, .ref mby, .int 0, .int (-1), .int 0, .int 0, .int 0, .int 0, .int 0, .int 0, .ref mkeptKeys, .ref mkeptValues, .ref mkeptHeights, .ref mkeptHeats, .ref mkeptKeys2, .ref mkeptValues2, .ref mkeptHeights2, .ref mkeptHeats2, .ref mkeptSights, .long hh]))] 0 0 (fun (r : Int32) (u : Unit) => r = if (0 ≤ a.toInt ∧ a.toInt ≤ 99) then (-103) else (-102)) (fun u => [(mo, .inr (12, [.ref mpage, .int 0, .int 0, .int 0, .int 0, .int 0, .int 0, .int 0, .ref mkeys, .ref mvalues, .ref mheights, .ref mheats, .int 0, .ref msecondKeys, .ref msecondValues, .ref msecondHeights, .ref msecondHeats, .int 0, .int 0, .int 0, .int 0, .ref msaved, .ref mbestHeights, .int 0, .ref msights, .ref mby, .int 0, .int (-1), .int 0, .int 0, .int 0, .int 0, .int 0, .int 0, .ref mkeptKeys, .ref mkeptValues, .ref mkeptHeights, .ref mkeptHeats, .ref mkeptKeys2, .ref mkeptValues2, .ref mkeptHeights2, .ref mkeptHeats2, .ref mkeptSights, .long hh]))]) := by
  refine wk_mkCi (by decide) (Nat.le_of_ble_eq_true rfl) ?_
  intro p e s m below meth c A ls B hA hK hP hD hS hl
  obtain ⟨hx, hb, hr, hlocks, hml, hown, htb, hin⟩ := B
  have hl : lv_has ls 4 [(0, .ref mo), (1, .int a)] := hl
  refine lv_iload_n hx hb dX12_split_0 rfl (lv_at hl 1 rfl) ?_
  refine wk_iS (As := [.int a]) (rest := []) (wc := []) (wr := [(mo, .inr (12, [.ref mpage, .int 0, .int 0, .int 0, .int 0, .int 0, .int 0, .int 0, .ref mkeys, .ref mvalues, .ref mheights, .ref mheats, .int 0, .ref msecondKeys, .ref msecondValues, .ref msecondHeights, .ref msecondHeats, .int 0, .int 0, .int 0, .int 0, .ref msaved, .ref mbestHeights, .int 0, .ref msights, .ref mby, .int 0, .int (-1), .int 0, .int 0, .int 0, .int 0, .int 0, .int 0, .ref mkeptKeys, .ref mkeptValues, .ref mkeptHeights, .ref mkeptHeats, .ref mkeptKeys2, .ref mkeptValues2, .ref mkeptHeights2, .ref mkeptHeats2, .ref mkeptSights, .long hh]))]) (n := 1) (R := _) ⟨hx, hb, hml, hown, htb⟩ (c_X12_isKey l D cy  a ) tw_963 tw_961 tw_962 tw_71 rfl rfl (by decide +kernel) ⟨Nat.le_of_ble_eq_true rfl, Nat.le_of_ble_eq_true rfl⟩ hK hP hD hS hA [] [0] rfl rfl rfl rfl (by decide) rfl hl.1 rfl (Nat.le_of_ble_eq_true rfl) dX12_split_1 ⟨Nat.le_of_ble_eq_true rfl, Nat.le_of_ble_eq_true rfl⟩ (fun r_1 u_2 H locs hw_3 hP hD hS => ?_)
  refine W.widen (k := 0) (n := 0) (by decide) (by decide) ?_
  have hw_3 : r_1 = if (0 ≤ a.toInt ∧ a.toInt ≤ 99) then 1 else 0 := hw_3
  subst hw_3
  have hP : va_P D classes [(mo, .inr (12, [.ref mpage, .int 0, .int 0, .int 0, .int 0, .int 0, .int 0, .int 0, .ref mkeys, .ref mvalues, .ref mheights, .ref mheats, .int 0, .ref msecondKeys, .ref msecondValues, .ref msecondHeights, .ref msecondHeats, .int 0, .int 0, .int 0, .int 0, .ref msaved, .ref mbestHeights, .int 0, .ref msights, .ref mby, .int 0, .int (-1), .int 0, .int 0, .int 0, .int 0, .int 0, .int 0, .ref mkeptKeys, .ref mkeptValues, .ref mkeptHeights, .ref mkeptHeats, .ref mkeptKeys2, .ref mkeptValues2, .ref mkeptHeights2, .ref mkeptHeats2, .ref mkeptSights, .long hh]))] H := hP
  have hD : va_D A [(mo, .inr (12, [.ref mpage, .int 0, .int 0, .int 0, .int 0, .int 0, .int 0, .int 0, .ref mkeys, .ref mvalues, .ref mheights, .ref mheats, .int 0, .ref msecondKeys, .ref msecondValues, .ref msecondHeights, .ref msecondHeats, .int 0, .int 0, .int 0, .int 0, .ref msaved, .ref mbestHeights, .int 0, .ref msights, .ref mby, .int 0, .int (-1), .int 0, .int 0, .int 0, .int 0, .int 0, .int 0, .ref mkeptKeys, .ref mkeptValues, .ref mkeptHeights, .ref mkeptHeats, .ref mkeptKeys2, .ref mkeptValues2, .ref mkeptHeights2, .ref mkeptHeats2, .ref mkeptSights, .long hh]))] := hD
  refine lv_if_ne (tgt := 10) hx hb dX12_split_4 (by decide) (fun c_4 => ?_) (fun c_4 => ?_)
  · have k_4 : (0 ≤ a.toInt ∧ a.toInt ≤ 99) := wk_o1 c_4
    refine lv_aload_n hx hb dX12_split_10 rfl (lv_at hl 0 rfl) ?_
    refine lv_iload_n hx hb dX12_split_11 rfl (lv_at hl 1 rfl) ?_
    refine wk_iV (As := [.int a]) (rest := []) (wc := [(mo, .inr (12, [.ref mpage, .int 0, .int 0, .int 0, .int 0, .int 0, .int 0, .int 0, .ref mkeys, .ref mvalues, .ref mheights, .ref mheats, .int 0, .ref msecondKeys, .ref msecondValues, .ref msecondHeights, .ref msecondHeats, .int 0, .int 0, .int 0, .int 0, .ref msaved, .ref mbestHeights, .int 0, .ref msights, .ref mby, .int 0, .int (-1), .int 0, .int 0, .int 0, .int 0, .int 0, .int 0, .ref mkeptKeys, .ref mkeptValues, .ref mkeptHeights, .ref mkeptHeats, .ref mkeptKeys2, .ref mkeptValues2, .ref mkeptHeights2, .ref mkeptHeats2, .ref mkeptSights, .long hh]))]) (wr := []) (n := 1) (R := _) ⟨hx, hb, hml, hown, htb⟩ (c_X12_placeOf l D cy mo mpage mkeys mvalues mheights mheats msecondKeys msecondValues msecondHeights msecondHeats msaved mbestHeights msights mby mkeptKeys mkeptValues mkeptHeights mkeptHeats mkeptKeys2 mkeptValues2 mkeptHeights2 mkeptHeats2 mkeptSights a hh) tw_1100 tw_1097 tw_1099 tw_50 tw_71 rfl rfl (by decide +kernel) ⟨Nat.le_of_ble_eq_true rfl, Nat.le_of_ble_eq_true rfl⟩ hK hP hD hS hA [0] [] rfl rfl rfl rfl (by decide) 0 (ci := 12) rfl rfl rfl hl.1 rfl (Nat.le_of_ble_eq_true rfl) dX12_split_12 ⟨Nat.le_of_ble_eq_true rfl, Nat.le_of_ble_eq_true rfl⟩ (fun r_5 u_6 H locs hw_7 hP hD hS => ?_)
    refine W.widen (k := 0) (n := 0) (by decide) (by decide) ?_
    have hw_7 : r_5 = 0 := hw_7
    subst hw_7
    have hP : va_P D classes [(mo, .inr (12, [.ref mpage, .int 0, .int 0, .int 0, .int 0, .int 0, .int 0, .int 0, .ref mkeys, .ref mvalues, .ref mheights, .ref mheats, .int 0, .ref msecondKeys, .ref msecondValues, .ref msecondHeights, .ref msecondHeats, .int 0, .int 0, .int 0, .int 0, .ref msaved, .ref mbestHeights, .int 0, .ref msights, .ref mby, .int 0, .int (-1), .int 0, .int 0, .int 0, .int 0, .int 0, .int 0, .ref mkeptKeys, .ref mkeptValues, .ref mkeptHeights, .ref mkeptHeats, .ref mkeptKeys2, .ref mkeptValues2, .ref mkeptHeights2, .ref mkeptHeats2, .ref mkeptSights, .long hh]))] H := hP
    have hD : va_D A [(mo, .inr (12, [.ref mpage, .int 0, .int 0, .int 0, .int 0, .int 0, .int 0, .int 0, .ref mkeys, .ref mvalues, .ref mheights, .ref mheats, .int 0, .ref msecondKeys, .ref msecondValues, .ref msecondHeights, .ref msecondHeats, .int 0, .int 0, .int 0, .int 0, .ref msaved, .ref mbestHeights, .int 0, .ref msights, .ref mby, .int 0, .int (-1), .int 0, .int 0, .int 0, .int 0, .int 0, .int 0, .ref mkeptKeys, .ref mkeptValues, .ref mkeptHeights, .ref mkeptHeats, .ref mkeptKeys2, .ref mkeptValues2, .ref mkeptHeights2, .ref mkeptHeats2, .ref mkeptSights, .long hh]))] := hD
    refine lv_istore_n (lv' := [(2, .int 0), (0, .ref mo), (1, .int a)]) hx hb dX12_split_15 rfl hl (by decide) rfl (fun ls hl => ?_)
    refine lv_aload_n hx hb dX12_split_16 rfl (lv_at hl 1 rfl) ?_
    refine wk_iV (As := []) (rest := []) (wc := [(mo, .inr (12, [.ref mpage, .int 0, .int 0, .int 0, .int 0, .int 0, .int 0, .int 0, .ref mkeys, .ref mvalues, .ref mheights, .ref mheats, .int 0, .ref msecondKeys, .ref msecondValues, .ref msecondHeights, .ref msecondHeats, .int 0, .int 0, .int 0, .int 0, .ref msaved, .ref mbestHeights, .int 0, .ref msights, .ref mby, .int 0, .int (-1), .int 0, .int 0, .int 0, .int 0, .int 0, .int 0, .ref mkeptKeys, .ref mkeptValues, .ref mkeptHeights, .ref mkeptHeats, .ref mkeptKeys2, .ref mkeptValues2, .ref mkeptHeights2, .ref mkeptHeats2, .ref mkeptSights, .long hh]))]) (wr := []) (n := 0) (R := _) ⟨hx, hb, hml, hown, htb⟩ (c_X12_lacks l D cy mo mpage mkeys mvalues mheights mheats msecondKeys msecondValues msecondHeights msecondHeats msaved mbestHeights msights mby mkeptKeys mkeptValues mkeptHeights mkeptHeats mkeptKeys2 mkeptValues2 mkeptHeights2 mkeptHeats2 mkeptSights  hh) tw_969 tw_966 tw_968 tw_29 tw_71 rfl rfl (by decide +kernel) ⟨Nat.le_of_ble_eq_true rfl, Nat.le_of_ble_eq_true rfl⟩ hK hP hD hS hA [0] [] rfl rfl rfl rfl (by decide) 0 (ci := 12) rfl rfl rfl hl.1 rfl (Nat.le_of_ble_eq_true rfl) dX12_split_17 ⟨Nat.le_of_ble_eq_true rfl, Nat.le_of_ble_eq_true rfl⟩ (fun r_8 u_9 H locs hw_10 hP hD hS => ?_)
    refine W.widen (k := 0) (n := 0) (by decide) (by decide) ?_
    have hw_10 : r_8 = 1 := hw_10
    subst hw_10
    have hP : va_P D classes [(mo, .inr (12, [.ref mpage, .int 0, .int 0, .int 0, .int 0, .int 0, .int 0, .int 0, .ref mkeys, .ref mvalues, .ref mheights, .ref mheats, .int 0, .ref msecondKeys, .ref msecondValues, .ref msecondHeights, .ref msecondHeats, .int 0, .int 0, .int 0, .int 0, .ref msaved, .ref mbestHeights, .int 0, .ref msights, .ref mby, .int 0, .int (-1), .int 0, .int 0, .int 0, .int 0, .int 0, .int 0, .ref mkeptKeys, .ref mkeptValues, .ref mkeptHeights, .ref mkeptHeats, .ref mkeptKeys2, .ref mkeptValues2, .ref mkeptHeights2, .ref mkeptHeats2, .ref mkeptSights, .long hh]))] H := hP
    have hD : va_D A [(mo, .inr (12, [.ref mpage, .int 0, .int 0, .int 0, .int 0, .int 0, .int 0, .int 0, .ref mkeys, .ref mvalues, .ref mheights, .ref mheats, .int 0, .ref msecondKeys, .ref msecondValues, .ref msecondHeights, .ref msecondHeats, .int 0, .int 0, .int 0, .int 0, .ref msaved, .ref mbestHeights, .int 0, .ref msights, .ref mby, .int 0, .int (-1), .int 0, .int 0, .int 0, .int 0, .int 0, .int 0, .ref mkeptKeys, .ref mkeptValues, .ref mkeptHeights, .ref mkeptHeats, .ref mkeptKeys2, .ref mkeptValues2, .ref mkeptHeights2, .ref mkeptHeats2, .ref mkeptSights, .long hh]))] := hD
    refine lv_if_ne (tgt := 43) hx hb dX12_split_20 (by decide) (fun _ => ?_) (fun c_11 => absurd c_11 (by decide))
    refine lv_bipush (v := (-103)) hx hb dX12_split_43 (by decide) ?_
    refine W.widen (k := 0) (n := 0) (by decide) (by decide) ?_
    exact wk_iret () hx hb hr hlocks (if_pos (by omega)).symm hK hP hD hS [0] rfl rfl dX12_split_45
  · have k_4 : ¬ ((0 ≤ a.toInt ∧ a.toInt ≤ 99)) := wk_o0 c_4
    refine lv_bipush (v := (-102)) hx hb dX12_split_7 (by decide) ?_
    refine W.widen (k := 0) (n := 0) (by decide) (by decide) ?_
    exact wk_iret () hx hb hr hlocks (if_neg (by omega)).symm hK hP hD hS [0] rfl rfl dX12_split_9
