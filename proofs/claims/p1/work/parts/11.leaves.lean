theorem dX6_add_0 : decode cX6_add 0 = .ok (.aload_n 0, 1) := by decide +kernel
theorem dX6_add_1 : decode cX6_add 1 = .ok (.getfield 15, 3) := by decide +kernel
theorem dX6_add_4 : decode cX6_add 4 = .ok (.bipush 44, 2) := by decide +kernel
theorem dX6_add_6 : decode cX6_add 6 = .ok (.if_icmp .ge 23, 3) := by decide +kernel
theorem dX6_add_9 : decode cX6_add 9 = .ok (.aload_n 0, 1) := by decide +kernel
theorem dX6_add_10 : decode cX6_add 10 = .ok (.getfield 9, 3) := by decide +kernel
theorem dX6_add_13 : decode cX6_add 13 = .ok (.aload_n 0, 1) := by decide +kernel
theorem dX6_add_14 : decode cX6_add 14 = .ok (.getfield 15, 3) := by decide +kernel
theorem dX6_add_17 : decode cX6_add 17 = .ok (.iload_n 1, 1) := by decide +kernel
theorem dX6_add_18 : decode cX6_add 18 = .ok (.iastore, 1) := by decide +kernel
theorem dX6_add_19 : decode cX6_add 19 = .ok (.aload_n 0, 1) := by decide +kernel
theorem dX6_add_20 : decode cX6_add 20 = .ok (.dup, 1) := by decide +kernel
theorem dX6_add_21 : decode cX6_add 21 = .ok (.getfield 15, 3) := by decide +kernel
theorem dX6_add_24 : decode cX6_add 24 = .ok (.iconst 1, 1) := by decide +kernel
theorem dX6_add_25 : decode cX6_add 25 = .ok (.iadd, 1) := by decide +kernel
theorem dX6_add_26 : decode cX6_add 26 = .ok (.putfield 15, 3) := by decide +kernel
theorem dX6_add_29 : decode cX6_add 29 = .ok (.aload_n 0, 1) := by decide +kernel
theorem dX6_add_30 : decode cX6_add 30 = .ok (.getfield 15, 3) := by decide +kernel
theorem dX6_add_33 : decode cX6_add 33 = .ok (.ireturn, 1) := by decide +kernel
set_option maxHeartbeats 4000000 in
set_option maxRecDepth 100000 in
theorem c_X6_add (l : Launch) (D : va_G) (cy : ClassId) (pg pgc : Nat) (a : Int32) : wk_Ci l yX6_add cX6_add 2 (some .int) { frames := 0, cells := 0, slots := 0, locals := 0 } D cy [.ref pg, .int a] [(pg, .inr (6, [.ref pgc, .int 0])), (pgc, .inl (cy, 44, .inl (fun _ => 0)))] 0 0 (fun (r : Int32) (u : Unit) => r = 1) (fun u => []) := by
  refine wk_mkCi (by decide) (Nat.le_of_ble_eq_true rfl) ?_
  intro p e s m below meth c A ls B hA hK hP hD hS hl
  obtain ⟨hx, hb, hr, hlocks, hml, hown, htb, hin⟩ := B
  have hl : lv_has ls 2 [(0, .ref pg), (1, .int a)] := hl
  refine lv_aload_n hx hb dX6_add_0 rfl (lv_at hl 0 rfl) ?_
  refine va_get (D := D) (ci := 6) (v := .int 0) (C := RX6) (T := TX6) (N := 2) hx hb htb inX6 hown hK hP 0 rfl rfl 1 (by decide) (htb _ tw_94) (fun _ h9 => h9) rfl dX6_add_1 ?_
  refine lv_bipush (v := 44) hx hb dX6_add_4 (by decide) ?_
  refine lv_icmp_ge (tgt := 29) hx hb dX6_add_6 (by decide) (fun c_1 => absurd c_1 (by decide)) (fun _ => ?_)
  refine lv_aload_n hx hb dX6_add_9 rfl (lv_at hl 0 rfl) ?_
  refine va_get (D := D) (ci := 6) (v := .ref pgc) (C := RX6) (T := TX6) (N := 2) hx hb htb inX6 hown hK hP 0 rfl rfl 0 (by decide) (htb _ tw_92) (fun _ h9 => h9) rfl dX6_add_10 ?_
  refine lv_aload_n hx hb dX6_add_13 rfl (lv_at hl 0 rfl) ?_
  refine va_get (D := D) (ci := 6) (v := .int 0) (C := RX6) (T := TX6) (N := 2) hx hb htb inX6 hown hK hP 0 rfl rfl 1 (by decide) (htb _ tw_94) (fun _ h9 => h9) rfl dX6_add_14 ?_
  refine lv_iload_n hx hb dX6_add_17 rfl (lv_at hl 1 rfl) ?_
  refine va_iast hx hb hK hP hD hS 1 0 rfl rfl (show vp_in 0 44 by unfold vp_in; decide) dX6_add_18 (fun H locs hP hD hS => ?_)
  have hP : va_P D classes [(pg, .inr (6, [.ref pgc, .int 0])), (pgc, .inl (cy, 44, .inl (upd (fun _ => 0) (0 : Int32).toNatClampNeg a)))] H := hP
  have hD : va_D A [(pg, .inr (6, [.ref pgc, .int 0])), (pgc, .inl (cy, 44, .inl (upd (fun _ => 0) (0 : Int32).toNatClampNeg a)))] := hD
  refine lv_aload_n hx hb dX6_add_19 rfl (lv_at hl 0 rfl) ?_
  refine lv_dup hx hb dX6_add_20 rfl ?_
  refine va_get (D := D) (ci := 6) (v := .int 0) (C := RX6) (T := TX6) (N := 2) hx hb htb inX6 hown hK hP 0 rfl rfl 1 (by decide) (htb _ tw_94) (fun _ h9 => h9) rfl dX6_add_21 ?_
  refine lv_iconst (v := 1) hx hb dX6_add_24 (by decide) ?_
  refine lv_iadd hx hb dX6_add_25 ?_
  refine wk_toi (show ((0 + 1) : Int32) = 1 by decide) ?_
  refine va_put (D := D) (ci := 6) (v := .int 1) (ty := .int) (C := RX6) (T := TX6) (N := 2) hx hb htb inX6 tyX6 tyX6_ok nmX6 hown hK hP hD hS 0 rfl rfl 1 (by decide) (htb _ tw_94) (fun _ h9 => h9) rfl (by decide +kernel) rfl rfl (Nat.le_of_ble_eq_true rfl) dX6_add_26 (fun H locs hP hD hS => ?_)
  have hP : va_P D classes [(pg, .inr (6, [.ref pgc, .int 1])), (pgc, .inl (cy, 44, .inl (upd (fun _ => 0) (0 : Int32).toNatClampNeg a)))] H := hP
  have hD : va_D A [(pg, .inr (6, [.ref pgc, .int 1])), (pgc, .inl (cy, 44, .inl (upd (fun _ => 0) (0 : Int32).toNatClampNeg a)))] := hD
  refine lv_aload_n hx hb dX6_add_29 rfl (lv_at hl 0 rfl) ?_
  refine va_get (D := D) (ci := 6) (v := .int 1) (C := RX6) (T := TX6) (N := 2) hx hb htb inX6 hown hK hP 0 rfl rfl 1 (by decide) (htb _ tw_94) (fun _ h9 => h9) rfl dX6_add_30 ?_
  refine W.widen (k := 0) (n := 0) (by decide) (by decide) ?_
  exact wk_iret () hx hb hr hlocks rfl hK hP hD hS [] rfl rfl dX6_add_33
theorem dX6_clear_0 : decode cX6_clear 0 = .ok (.aload_n 0, 1) := by decide +kernel
theorem dX6_clear_1 : decode cX6_clear 1 = .ok (.getfield 15, 3) := by decide +kernel
theorem dX6_clear_4 : decode cX6_clear 4 = .ok (.istore_n 1, 1) := by decide +kernel
theorem dX6_clear_5 : decode cX6_clear 5 = .ok (.aload_n 0, 1) := by decide +kernel
theorem dX6_clear_6 : decode cX6_clear 6 = .ok (.iconst 0, 1) := by decide +kernel
theorem dX6_clear_7 : decode cX6_clear 7 = .ok (.putfield 15, 3) := by decide +kernel
theorem dX6_clear_10 : decode cX6_clear 10 = .ok (.iload_n 1, 1) := by decide +kernel
theorem dX6_clear_11 : decode cX6_clear 11 = .ok (.ireturn, 1) := by decide +kernel
set_option maxHeartbeats 4000000 in
set_option maxRecDepth 100000 in
theorem c_X6_clear (l : Launch) (D : va_G) (cy : ClassId) (pg pgc : Nat) : wk_Ci l yX6_clear cX6_clear 2 (some .int) { frames := 0, cells := 0, slots := 0, locals := 0 } D cy [.ref pg] [(pg, .inr (6, [.ref pgc, .int 0]))] 0 0 (fun (r : Int32) (u : Unit) => r = 0) (fun u => []) := by
  refine wk_mkCi (by decide) (Nat.le_of_ble_eq_true rfl) ?_
  intro p e s m below meth c A ls B hA hK hP hD hS hl
  obtain ⟨hx, hb, hr, hlocks, hml, hown, htb, hin⟩ := B
  have hl : lv_has ls 2 [(0, .ref pg)] := hl
  refine lv_aload_n hx hb dX6_clear_0 rfl (lv_at hl 0 rfl) ?_
  refine va_get (D := D) (ci := 6) (v := .int 0) (C := RX6) (T := TX6) (N := 2) hx hb htb inX6 hown hK hP 0 rfl rfl 1 (by decide) (htb _ tw_94) (fun _ h9 => h9) rfl dX6_clear_1 ?_
  refine lv_istore_n (lv' := [(1, .int 0), (0, .ref pg)]) hx hb dX6_clear_4 rfl hl (by decide) rfl (fun ls hl => ?_)
  refine lv_aload_n hx hb dX6_clear_5 rfl (lv_at hl 1 rfl) ?_
  refine lv_iconst (v := 0) hx hb dX6_clear_6 (by decide) ?_
  refine va_put (D := D) (ci := 6) (v := .int 0) (ty := .int) (C := RX6) (T := TX6) (N := 2) hx hb htb inX6 tyX6 tyX6_ok nmX6 hown hK hP hD hS 0 rfl rfl 1 (by decide) (htb _ tw_94) (fun _ h9 => h9) rfl (by decide +kernel) rfl rfl (Nat.le_of_ble_eq_true rfl) dX6_clear_7 (fun H locs hP hD hS => ?_)
  have hP : va_P D classes [(pg, .inr (6, [.ref pgc, .int 0]))] H := hP
  have hD : va_D A [(pg, .inr (6, [.ref pgc, .int 0]))] := hD
  refine lv_iload_n hx hb dX6_clear_10 rfl (lv_at hl 0 rfl) ?_
  refine W.widen (k := 0) (n := 0) (by decide) (by decide) ?_
  exact wk_iret () hx hb hr hlocks rfl hK hP hD hS [] rfl rfl dX6_clear_11
theorem dX6_signsOfKey_0 : decode cX6_signsOfKey 0 = .ok (.aload_n 0, 1) := by decide +kernel
theorem dX6_signsOfKey_1 : decode cX6_signsOfKey 1 = .ok (.getfield 15, 3) := by decide +kernel
theorem dX6_signsOfKey_4 : decode cX6_signsOfKey 4 = .ok (.ifCond .le 12, 3) := by decide +kernel
theorem dX6_signsOfKey_16 : decode cX6_signsOfKey 16 = .ok (.iconst 0, 1) := by decide +kernel
theorem dX6_signsOfKey_17 : decode cX6_signsOfKey 17 = .ok (.lookupswitch 55 #[(100, 53), (101, 53), (104, 53), (115, 53), (116, 51)], 51) := by decide +kernel
theorem dX6_signsOfKey_72 : decode cX6_signsOfKey 72 = .ok (.iconst (-1), 1) := by decide +kernel
theorem dX6_signsOfKey_73 : decode cX6_signsOfKey 73 = .ok (.ireturn, 1) := by decide +kernel
set_option maxHeartbeats 4000000 in
set_option maxRecDepth 100000 in
theorem c_X6_signsOfKey (l : Launch) (D : va_G) (cy : ClassId) (pg pgc : Nat) : wk_Ci l yX6_signsOfKey cX6_signsOfKey 1 (some .int) { frames := 0, cells := 0, slots := 0, locals := 0 } D cy [.ref pg] [(pg, .inr (6, [.ref pgc, .int 0]))] 0 0 (fun (r : Int32) (u : Unit) => r = (-1)) (fun u => [(pg, .inr (6, [.ref pgc, .int 0]))]) := by
  refine wk_mkCi (by decide) (Nat.le_of_ble_eq_true rfl) ?_
  intro p e s m below meth c A ls B hA hK hP hD hS hl
  obtain ⟨hx, hb, hr, hlocks, hml, hown, htb, hin⟩ := B
  have hl : lv_has ls 1 [(0, .ref pg)] := hl
  refine lv_aload_n hx hb dX6_signsOfKey_0 rfl (lv_at hl 0 rfl) ?_
  refine va_get (D := D) (ci := 6) (v := .int 0) (C := RX6) (T := TX6) (N := 2) hx hb htb inX6 hown hK hP 0 rfl rfl 1 (by decide) (htb _ tw_94) (fun _ h9 => h9) rfl dX6_signsOfKey_1 ?_
  refine lv_if_le (tgt := 16) hx hb dX6_signsOfKey_4 (by decide) (fun _ => ?_) (fun c_1 => absurd (by decide) c_1)
  refine lv_iconst (v := 0) hx hb dX6_signsOfKey_16 (by decide) ?_
  refine lv_lookup (off := 55) (tgt := 72) hx hb dX6_signsOfKey_17 (by decide) (by decide) (by decide) ?_
  refine lv_iconst (v := (-1)) hx hb dX6_signsOfKey_72 (by decide) ?_
  refine W.widen (k := 0) (n := 0) (by decide) (by decide) ?_
  exact wk_iret () hx hb hr hlocks rfl hK hP hD hS [0] rfl rfl dX6_signsOfKey_73
theorem dX6_firstFault_0 : decode cX6_firstFault 0 = .ok (.aload_n 0, 1) := by decide +kernel
theorem dX6_firstFault_1 : decode cX6_firstFault 1 = .ok (.invokevirtual 49, 3) := by decide +kernel
theorem dX6_firstFault_4 : decode cX6_firstFault 4 = .ok (.istore_n 1, 1) := by decide +kernel
theorem dX6_firstFault_5 : decode cX6_firstFault 5 = .ok (.iload_n 1, 1) := by decide +kernel
theorem dX6_firstFault_6 : decode cX6_firstFault 6 = .ok (.iconst (-1), 1) := by decide +kernel
theorem dX6_firstFault_7 : decode cX6_firstFault 7 = .ok (.if_icmp .ne 5, 3) := by decide +kernel
theorem dX6_firstFault_10 : decode cX6_firstFault 10 = .ok (.iconst 0, 1) := by decide +kernel
theorem dX6_firstFault_11 : decode cX6_firstFault 11 = .ok (.ireturn, 1) := by decide +kernel
set_option maxHeartbeats 4000000 in
set_option maxRecDepth 100000 in
theorem c_X6_firstFault (l : Launch) (D : va_G) (cy : ClassId) (pg pgc : Nat) : wk_Ci l yX6_firstFault cX6_firstFault 5 (some .int) { frames := 1, cells := 0, slots := 0, locals := 20 } D cy [.ref pg] [(pg, .inr (6, [.ref pgc, .int 0]))] 0 0 (fun (r : Int32) (u : Unit) => r = 0) (fun u => [(pg, .inr (6, [.ref pgc, .int 0]))]) := by
  refine wk_mkCi (by decide) (Nat.le_of_ble_eq_true rfl) ?_
  intro p e s m below meth c A ls B hA hK hP hD hS hl
  obtain ⟨hx, hb, hr, hlocks, hml, hown, htb, hin⟩ := B
  have hl : lv_has ls 5 [(0, .ref pg)] := hl
  refine lv_aload_n hx hb dX6_firstFault_0 rfl (lv_at hl 0 rfl) ?_
  refine wk_iV (As := []) (rest := []) (wc := [(pg, .inr (6, [.ref pgc, .int 0]))]) (wr := []) (n := 0) (R := _) ⟨hx, hb, hml, hown, htb⟩ (c_X6_signsOfKey l D cy pg pgc  ) tw_310 tw_307 tw_309 tw_0 tw_65 rfl rfl (by decide +kernel) ⟨Nat.le_of_ble_eq_true rfl, Nat.le_of_ble_eq_true rfl⟩ hK hP hD hS hA [0] [] rfl rfl rfl rfl (by decide) 0 (ci := 6) rfl rfl rfl hl.1 rfl (Nat.le_of_ble_eq_true rfl) dX6_firstFault_1 ⟨Nat.le_of_ble_eq_true rfl, Nat.le_of_ble_eq_true rfl⟩ (fun r_1 u_2 H locs hw_3 hP hD hS => ?_)
  refine W.widen (k := 0) (n := 0) (by decide) (by decide) ?_
  have hw_3 : r_1 = (-1) := hw_3
  subst hw_3
  have hP : va_P D classes [(pg, .inr (6, [.ref pgc, .int 0]))] H := hP
  have hD : va_D A [(pg, .inr (6, [.ref pgc, .int 0]))] := hD
  refine lv_istore_n (lv' := [(1, .int (-1)), (0, .ref pg)]) hx hb dX6_firstFault_4 rfl hl (by decide) rfl (fun ls hl => ?_)
  refine lv_iload_n hx hb dX6_firstFault_5 rfl (lv_at hl 0 rfl) ?_
  refine lv_iconst (v := (-1)) hx hb dX6_firstFault_6 (by decide) ?_
  refine lv_icmp_ne (tgt := 12) hx hb dX6_firstFault_7 (by decide) (fun c_4 => absurd (by decide) c_4) (fun _ => ?_)
  refine lv_iconst (v := 0) hx hb dX6_firstFault_10 (by decide) ?_
  refine W.widen (k := 0) (n := 0) (by decide) (by decide) ?_
  exact wk_iret () hx hb hr hlocks rfl hK hP hD hS [0] rfl rfl dX6_firstFault_11
theorem dX6_keysTold_0 : decode cX6_keysTold 0 = .ok (.aload_n 0, 1) := by decide +kernel
theorem dX6_keysTold_1 : decode cX6_keysTold 1 = .ok (.invokevirtual 49, 3) := by decide +kernel
theorem dX6_keysTold_4 : decode cX6_keysTold 4 = .ok (.istore_n 1, 1) := by decide +kernel
theorem dX6_keysTold_5 : decode cX6_keysTold 5 = .ok (.iload_n 1, 1) := by decide +kernel
theorem dX6_keysTold_6 : decode cX6_keysTold 6 = .ok (.iconst (-1), 1) := by decide +kernel
theorem dX6_keysTold_7 : decode cX6_keysTold 7 = .ok (.if_icmp .eq 14, 3) := by decide +kernel
theorem dX6_keysTold_21 : decode cX6_keysTold 21 = .ok (.iconst (-1), 1) := by decide +kernel
theorem dX6_keysTold_22 : decode cX6_keysTold 22 = .ok (.ireturn, 1) := by decide +kernel
set_option maxHeartbeats 4000000 in
set_option maxRecDepth 100000 in
theorem c_X6_keysTold (l : Launch) (D : va_G) (cy : ClassId) (pg pgc : Nat) : wk_Ci l yX6_keysTold cX6_keysTold 3 (some .int) { frames := 1, cells := 0, slots := 0, locals := 20 } D cy [.ref pg] [(pg, .inr (6, [.ref pgc, .int 0]))] 0 0 (fun (r : Int32) (u : Unit) => r = (-1)) (fun u => [(pg, .inr (6, [.ref pgc, .int 0]))]) := by
  refine wk_mkCi (by decide) (Nat.le_of_ble_eq_true rfl) ?_
  intro p e s m below meth c A ls B hA hK hP hD hS hl
  obtain ⟨hx, hb, hr, hlocks, hml, hown, htb, hin⟩ := B
  have hl : lv_has ls 3 [(0, .ref pg)] := hl
  refine lv_aload_n hx hb dX6_keysTold_0 rfl (lv_at hl 0 rfl) ?_
  refine wk_iV (As := []) (rest := []) (wc := [(pg, .inr (6, [.ref pgc, .int 0]))]) (wr := []) (n := 0) (R := _) ⟨hx, hb, hml, hown, htb⟩ (c_X6_signsOfKey l D cy pg pgc  ) tw_310 tw_307 tw_309 tw_0 tw_65 rfl rfl (by decide +kernel) ⟨Nat.le_of_ble_eq_true rfl, Nat.le_of_ble_eq_true rfl⟩ hK hP hD hS hA [0] [] rfl rfl rfl rfl (by decide) 0 (ci := 6) rfl rfl rfl hl.1 rfl (Nat.le_of_ble_eq_true rfl) dX6_keysTold_1 ⟨Nat.le_of_ble_eq_true rfl, Nat.le_of_ble_eq_true rfl⟩ (fun r_1 u_2 H locs hw_3 hP hD hS => ?_)
  refine W.widen (k := 0) (n := 0) (by decide) (by decide) ?_
  have hw_3 : r_1 = (-1) := hw_3
  subst hw_3
  have hP : va_P D classes [(pg, .inr (6, [.ref pgc, .int 0]))] H := hP
  have hD : va_D A [(pg, .inr (6, [.ref pgc, .int 0]))] := hD
  refine lv_istore_n (lv' := [(1, .int (-1)), (0, .ref pg)]) hx hb dX6_keysTold_4 rfl hl (by decide) rfl (fun ls hl => ?_)
  refine lv_iload_n hx hb dX6_keysTold_5 rfl (lv_at hl 0 rfl) ?_
  refine lv_iconst (v := (-1)) hx hb dX6_keysTold_6 (by decide) ?_
  refine lv_icmp_eq (tgt := 21) hx hb dX6_keysTold_7 (by decide) (fun _ => ?_) (fun c_4 => absurd (by decide) c_4)
  refine lv_iconst (v := (-1)) hx hb dX6_keysTold_21 (by decide) ?_
  refine W.widen (k := 0) (n := 0) (by decide) (by decide) ?_
  exact wk_iret () hx hb hr hlocks rfl hK hP hD hS [0] rfl rfl dX6_keysTold_22
theorem dX8_firstNotLess_0 : decode cX8_firstNotLess 0 = .ok (.iconst 0, 1) := by decide +kernel
theorem dX8_firstNotLess_1 : decode cX8_firstNotLess 1 = .ok (.istore_n 2, 1) := by decide +kernel
theorem dX8_firstNotLess_2 : decode cX8_firstNotLess 2 = .ok (.iload_n 2, 1) := by decide +kernel
theorem dX8_firstNotLess_3 : decode cX8_firstNotLess 3 = .ok (.aload_n 0, 1) := by decide +kernel
theorem dX8_firstNotLess_4 : decode cX8_firstNotLess 4 = .ok (.getfield 24, 3) := by decide +kernel
theorem dX8_firstNotLess_7 : decode cX8_firstNotLess 7 = .ok (.if_icmp .ge 19, 3) := by decide +kernel
theorem dX8_firstNotLess_26 : decode cX8_firstNotLess 26 = .ok (.iload_n 2, 1) := by decide +kernel
theorem dX8_firstNotLess_27 : decode cX8_firstNotLess 27 = .ok (.ireturn, 1) := by decide +kernel
set_option maxHeartbeats 4000000 in
set_option maxRecDepth 100000 in
theorem c_X8_firstNotLess (l : Launch) (D : va_G) (cy : ClassId) (nwf nwfk nwfv nwfh nwft : Nat) (a : Int32) : wk_Ci l yX8_firstNotLess cX8_firstNotLess 3 (some .int) { frames := 0, cells := 0, slots := 0, locals := 0 } D cy [.ref nwf, .int a] [(nwf, .inr (8, [.ref nwfk, .ref nwfv, .ref nwfh, .ref nwft, .int 0]))] 0 0 (fun (r : Int32) (u : Unit) => r = 0) (fun u => [(nwf, .inr (8, [.ref nwfk, .ref nwfv, .ref nwfh, .ref nwft, .int 0]))]) := by
  refine wk_mkCi (by decide) (Nat.le_of_ble_eq_true rfl) ?_
  intro p e s m below meth c A ls B hA hK hP hD hS hl
  obtain ⟨hx, hb, hr, hlocks, hml, hown, htb, hin⟩ := B
  have hl : lv_has ls 3 [(0, .ref nwf), (1, .int a)] := hl
  refine lv_iconst (v := 0) hx hb dX8_firstNotLess_0 (by decide) ?_
  refine lv_istore_n (lv' := [(2, .int 0), (0, .ref nwf), (1, .int a)]) hx hb dX8_firstNotLess_1 rfl hl (by decide) rfl (fun ls hl => ?_)
  refine lv_iload_n hx hb dX8_firstNotLess_2 rfl (lv_at hl 0 rfl) ?_
  refine lv_aload_n hx hb dX8_firstNotLess_3 rfl (lv_at hl 1 rfl) ?_
  refine va_get (D := D) (ci := 8) (v := .int 0) (C := RX8) (T := TX8) (N := 5) hx hb htb inX8 hown hK hP 0 rfl rfl 4 (by decide) (htb _ tw_129) (fun _ h9 => h9) rfl dX8_firstNotLess_4 ?_
  refine lv_icmp_ge (tgt := 26) hx hb dX8_firstNotLess_7 (by decide) (fun _ => ?_) (fun c_1 => absurd (by decide) c_1)
  refine lv_iload_n hx hb dX8_firstNotLess_26 rfl (lv_at hl 0 rfl) ?_
  refine W.widen (k := 0) (n := 0) (by decide) (by decide) ?_
  exact wk_iret () hx hb hr hlocks rfl hK hP hD hS [0] rfl rfl dX8_firstNotLess_27
theorem dX8_numberOf_0 : decode cX8_numberOf 0 = .ok (.aload_n 0, 1) := by decide +kernel
theorem dX8_numberOf_1 : decode cX8_numberOf 1 = .ok (.iload_n 1, 1) := by decide +kernel
theorem dX8_numberOf_2 : decode cX8_numberOf 2 = .ok (.invokevirtual 36, 3) := by decide +kernel
theorem dX8_numberOf_5 : decode cX8_numberOf 5 = .ok (.istore_n 2, 1) := by decide +kernel
theorem dX8_numberOf_6 : decode cX8_numberOf 6 = .ok (.iload_n 2, 1) := by decide +kernel
theorem dX8_numberOf_7 : decode cX8_numberOf 7 = .ok (.aload_n 0, 1) := by decide +kernel
theorem dX8_numberOf_8 : decode cX8_numberOf 8 = .ok (.getfield 24, 3) := by decide +kernel
theorem dX8_numberOf_11 : decode cX8_numberOf 11 = .ok (.if_icmp .ge 17, 3) := by decide +kernel
theorem dX8_numberOf_28 : decode cX8_numberOf 28 = .ok (.iconst (-1), 1) := by decide +kernel
theorem dX8_numberOf_29 : decode cX8_numberOf 29 = .ok (.ireturn, 1) := by decide +kernel
set_option maxHeartbeats 4000000 in
set_option maxRecDepth 100000 in
theorem c_X8_numberOf (l : Launch) (D : va_G) (cy : ClassId) (nwf nwfk nwfv nwfh nwft : Nat) (a : Int32) : wk_Ci l yX8_numberOf cX8_numberOf 3 (some .int) { frames := 1, cells := 0, slots := 0, locals := 22 } D cy [.ref nwf, .int a] [(nwf, .inr (8, [.ref nwfk, .ref nwfv, .ref nwfh, .ref nwft, .int 0]))] 0 0 (fun (r : Int32) (u : Unit) => r = (-1)) (fun u => [(nwf, .inr (8, [.ref nwfk, .ref nwfv, .ref nwfh, .ref nwft, .int 0]))]) := by
  refine wk_mkCi (by decide) (Nat.le_of_ble_eq_true rfl) ?_
  intro p e s m below meth c A ls B hA hK hP hD hS hl
  obtain ⟨hx, hb, hr, hlocks, hml, hown, htb, hin⟩ := B
  have hl : lv_has ls 3 [(0, .ref nwf), (1, .int a)] := hl
  refine lv_aload_n hx hb dX8_numberOf_0 rfl (lv_at hl 0 rfl) ?_
  refine lv_iload_n hx hb dX8_numberOf_1 rfl (lv_at hl 1 rfl) ?_
  refine wk_iV (As := [.int a]) (rest := []) (wc := [(nwf, .inr (8, [.ref nwfk, .ref nwfv, .ref nwfh, .ref nwft, .int 0]))]) (wr := []) (n := 1) (R := _) ⟨hx, hb, hml, hown, htb⟩ (c_X8_firstNotLess l D cy nwf nwfk nwfv nwfh nwft a ) tw_595 tw_609 tw_593 tw_594 tw_67 rfl rfl (by decide +kernel) ⟨Nat.le_of_ble_eq_true rfl, Nat.le_of_ble_eq_true rfl⟩ hK hP hD hS hA [0] [] rfl rfl rfl rfl (by decide) 0 (ci := 8) rfl rfl rfl hl.1 rfl (Nat.le_of_ble_eq_true rfl) dX8_numberOf_2 ⟨Nat.le_of_ble_eq_true rfl, Nat.le_of_ble_eq_true rfl⟩ (fun r_1 u_2 H locs hw_3 hP hD hS => ?_)
  refine W.widen (k := 0) (n := 0) (by decide) (by decide) ?_
  have hw_3 : r_1 = 0 := hw_3
  subst hw_3
  have hP : va_P D classes [(nwf, .inr (8, [.ref nwfk, .ref nwfv, .ref nwfh, .ref nwft, .int 0]))] H := hP
  have hD : va_D A [(nwf, .inr (8, [.ref nwfk, .ref nwfv, .ref nwfh, .ref nwft, .int 0]))] := hD
  refine lv_istore_n (lv' := [(2, .int 0), (0, .ref nwf), (1, .int a)]) hx hb dX8_numberOf_5 rfl hl (by decide) rfl (fun ls hl => ?_)
  refine lv_iload_n hx hb dX8_numberOf_6 rfl (lv_at hl 0 rfl) ?_
  refine lv_aload_n hx hb dX8_numberOf_7 rfl (lv_at hl 1 rfl) ?_
  refine va_get (D := D) (ci := 8) (v := .int 0) (C := RX8) (T := TX8) (N := 5) hx hb htb inX8 hown hK hP 0 rfl rfl 4 (by decide) (htb _ tw_129) (fun _ h9 => h9) rfl dX8_numberOf_8 ?_
  refine lv_icmp_ge (tgt := 28) hx hb dX8_numberOf_11 (by decide) (fun _ => ?_) (fun c_4 => absurd (by decide) c_4)
  refine lv_iconst (v := (-1)) hx hb dX8_numberOf_28 (by decide) ?_
  refine W.widen (k := 0) (n := 0) (by decide) (by decide) ?_
  exact wk_iret () hx hb hr hlocks rfl hK hP hD hS [0] rfl rfl dX8_numberOf_29
theorem dX8_highestOf_0 : decode cX8_highestOf 0 = .ok (.iconst 0, 1) := by decide +kernel
theorem dX8_highestOf_1 : decode cX8_highestOf 1 = .ok (.istore_n 2, 1) := by decide +kernel
theorem dX8_highestOf_2 : decode cX8_highestOf 2 = .ok (.iconst 0, 1) := by decide +kernel
theorem dX8_highestOf_3 : decode cX8_highestOf 3 = .ok (.istore_n 3, 1) := by decide +kernel
theorem dX8_highestOf_4 : decode cX8_highestOf 4 = .ok (.iload_n 3, 1) := by decide +kernel
theorem dX8_highestOf_5 : decode cX8_highestOf 5 = .ok (.aload_n 0, 1) := by decide +kernel
theorem dX8_highestOf_6 : decode cX8_highestOf 6 = .ok (.getfield 24, 3) := by decide +kernel
theorem dX8_highestOf_9 : decode cX8_highestOf 9 = .ok (.if_icmp .ge 17, 3) := by decide +kernel
theorem dX8_highestOf_26 : decode cX8_highestOf 26 = .ok (.iload_n 2, 1) := by decide +kernel
theorem dX8_highestOf_27 : decode cX8_highestOf 27 = .ok (.ireturn, 1) := by decide +kernel
set_option maxHeartbeats 4000000 in
set_option maxRecDepth 100000 in
theorem c_X8_highestOf (l : Launch) (D : va_G) (cy : ClassId) (nwf nwfk nwfv nwfh nwft : Nat) : wk_Ci l yX8_highestOf cX8_highestOf 4 (some .int) { frames := 0, cells := 0, slots := 0, locals := 0 } D cy [.ref nwf, .ref nwfh] [(nwf, .inr (8, [.ref nwfk, .ref nwfv, .ref nwfh, .ref nwft, .int 0]))] 0 0 (fun (r : Int32) (u : Unit) => r = 0) (fun u => [(nwf, .inr (8, [.ref nwfk, .ref nwfv, .ref nwfh, .ref nwft, .int 0]))]) := by
  refine wk_mkCi (by decide) (Nat.le_of_ble_eq_true rfl) ?_
  intro p e s m below meth c A ls B hA hK hP hD hS hl
  obtain ⟨hx, hb, hr, hlocks, hml, hown, htb, hin⟩ := B
  have hl : lv_has ls 4 [(0, .ref nwf), (1, .ref nwfh)] := hl
  refine lv_iconst (v := 0) hx hb dX8_highestOf_0 (by decide) ?_
  refine lv_istore_n (lv' := [(2, .int 0), (0, .ref nwf), (1, .ref nwfh)]) hx hb dX8_highestOf_1 rfl hl (by decide) rfl (fun ls hl => ?_)
  refine lv_iconst (v := 0) hx hb dX8_highestOf_2 (by decide) ?_
  refine lv_istore_n (lv' := [(3, .int 0), (2, .int 0), (0, .ref nwf), (1, .ref nwfh)]) hx hb dX8_highestOf_3 rfl hl (by decide) rfl (fun ls hl => ?_)
  refine lv_iload_n hx hb dX8_highestOf_4 rfl (lv_at hl 0 rfl) ?_
  refine lv_aload_n hx hb dX8_highestOf_5 rfl (lv_at hl 2 rfl) ?_
  refine va_get (D := D) (ci := 8) (v := .int 0) (C := RX8) (T := TX8) (N := 5) hx hb htb inX8 hown hK hP 0 rfl rfl 4 (by decide) (htb _ tw_129) (fun _ h9 => h9) rfl dX8_highestOf_6 ?_
  refine lv_icmp_ge (tgt := 26) hx hb dX8_highestOf_9 (by decide) (fun _ => ?_) (fun c_1 => absurd (by decide) c_1)
  refine lv_iload_n hx hb dX8_highestOf_26 rfl (lv_at hl 1 rfl) ?_
  refine W.widen (k := 0) (n := 0) (by decide) (by decide) ?_
  exact wk_iret () hx hb hr hlocks rfl hK hP hD hS [0] rfl rfl dX8_highestOf_27
theorem dX8_linksOf_0 : decode cX8_linksOf 0 = .ok (.iconst 0, 1) := by decide +kernel
theorem dX8_linksOf_1 : decode cX8_linksOf 1 = .ok (.istore_n 2, 1) := by decide +kernel
theorem dX8_linksOf_2 : decode cX8_linksOf 2 = .ok (.iconst 0, 1) := by decide +kernel
theorem dX8_linksOf_3 : decode cX8_linksOf 3 = .ok (.istore_n 3, 1) := by decide +kernel
theorem dX8_linksOf_4 : decode cX8_linksOf 4 = .ok (.iload_n 3, 1) := by decide +kernel
theorem dX8_linksOf_5 : decode cX8_linksOf 5 = .ok (.aload_n 0, 1) := by decide +kernel
theorem dX8_linksOf_6 : decode cX8_linksOf 6 = .ok (.getfield 24, 3) := by decide +kernel
theorem dX8_linksOf_9 : decode cX8_linksOf 9 = .ok (.if_icmp .ge 15, 3) := by decide +kernel
theorem dX8_linksOf_24 : decode cX8_linksOf 24 = .ok (.iload_n 2, 1) := by decide +kernel
theorem dX8_linksOf_25 : decode cX8_linksOf 25 = .ok (.ireturn, 1) := by decide +kernel
set_option maxHeartbeats 4000000 in
set_option maxRecDepth 100000 in
theorem c_X8_linksOf (l : Launch) (D : va_G) (cy : ClassId) (nwf nwfk nwfv nwfh nwft : Nat) : wk_Ci l yX8_linksOf cX8_linksOf 4 (some .int) { frames := 0, cells := 0, slots := 0, locals := 0 } D cy [.ref nwf, .ref nwfh] [(nwf, .inr (8, [.ref nwfk, .ref nwfv, .ref nwfh, .ref nwft, .int 0]))] 0 0 (fun (r : Int32) (u : Unit) => r = 0) (fun u => [(nwf, .inr (8, [.ref nwfk, .ref nwfv, .ref nwfh, .ref nwft, .int 0]))]) := by
  refine wk_mkCi (by decide) (Nat.le_of_ble_eq_true rfl) ?_
  intro p e s m below meth c A ls B hA hK hP hD hS hl
  obtain ⟨hx, hb, hr, hlocks, hml, hown, htb, hin⟩ := B
  have hl : lv_has ls 4 [(0, .ref nwf), (1, .ref nwfh)] := hl
  refine lv_iconst (v := 0) hx hb dX8_linksOf_0 (by decide) ?_
  refine lv_istore_n (lv' := [(2, .int 0), (0, .ref nwf), (1, .ref nwfh)]) hx hb dX8_linksOf_1 rfl hl (by decide) rfl (fun ls hl => ?_)
  refine lv_iconst (v := 0) hx hb dX8_linksOf_2 (by decide) ?_
  refine lv_istore_n (lv' := [(3, .int 0), (2, .int 0), (0, .ref nwf), (1, .ref nwfh)]) hx hb dX8_linksOf_3 rfl hl (by decide) rfl (fun ls hl => ?_)
  refine lv_iload_n hx hb dX8_linksOf_4 rfl (lv_at hl 0 rfl) ?_
  refine lv_aload_n hx hb dX8_linksOf_5 rfl (lv_at hl 2 rfl) ?_
  refine va_get (D := D) (ci := 8) (v := .int 0) (C := RX8) (T := TX8) (N := 5) hx hb htb inX8 hown hK hP 0 rfl rfl 4 (by decide) (htb _ tw_129) (fun _ h9 => h9) rfl dX8_linksOf_6 ?_
  refine lv_icmp_ge (tgt := 24) hx hb dX8_linksOf_9 (by decide) (fun _ => ?_) (fun c_1 => absurd (by decide) c_1)
  refine lv_iload_n hx hb dX8_linksOf_24 rfl (lv_at hl 1 rfl) ?_
  refine W.widen (k := 0) (n := 0) (by decide) (by decide) ?_
  exact wk_iret () hx hb hr hlocks rfl hK hP hD hS [0] rfl rfl dX8_linksOf_25
theorem dX8_valuesBetween_0 : decode cX8_valuesBetween 0 = .ok (.iconst 0, 1) := by decide +kernel
theorem dX8_valuesBetween_1 : decode cX8_valuesBetween 1 = .ok (.istore_n 3, 1) := by decide +kernel
theorem dX8_valuesBetween_2 : decode cX8_valuesBetween 2 = .ok (.iconst 0, 1) := by decide +kernel
theorem dX8_valuesBetween_3 : decode cX8_valuesBetween 3 = .ok (.istore 4, 2) := by decide +kernel
theorem dX8_valuesBetween_5 : decode cX8_valuesBetween 5 = .ok (.iload 4, 2) := by decide +kernel
theorem dX8_valuesBetween_7 : decode cX8_valuesBetween 7 = .ok (.aload_n 0, 1) := by decide +kernel
theorem dX8_valuesBetween_8 : decode cX8_valuesBetween 8 = .ok (.getfield 24, 3) := by decide +kernel
theorem dX8_valuesBetween_11 : decode cX8_valuesBetween 11 = .ok (.if_icmp .ge 45, 3) := by decide +kernel
theorem dX8_valuesBetween_56 : decode cX8_valuesBetween 56 = .ok (.iload_n 3, 1) := by decide +kernel
theorem dX8_valuesBetween_57 : decode cX8_valuesBetween 57 = .ok (.ireturn, 1) := by decide +kernel
set_option maxHeartbeats 4000000 in
set_option maxRecDepth 100000 in
theorem c_X8_valuesBetween (l : Launch) (D : va_G) (cy : ClassId) (nwf nwfk nwfv nwfh nwft : Nat) (a b : Int32) : wk_Ci l yX8_valuesBetween cX8_valuesBetween 5 (some .int) { frames := 0, cells := 0, slots := 0, locals := 0 } D cy [.ref nwf, .int a, .int b] [(nwf, .inr (8, [.ref nwfk, .ref nwfv, .ref nwfh, .ref nwft, .int 0]))] 0 0 (fun (r : Int32) (u : Unit) => r = 0) (fun u => [(nwf, .inr (8, [.ref nwfk, .ref nwfv, .ref nwfh, .ref nwft, .int 0]))]) := by
  refine wk_mkCi (by decide) (Nat.le_of_ble_eq_true rfl) ?_
  intro p e s m below meth c A ls B hA hK hP hD hS hl
  obtain ⟨hx, hb, hr, hlocks, hml, hown, htb, hin⟩ := B
  have hl : lv_has ls 5 [(0, .ref nwf), (1, .int a), (2, .int b)] := hl
  refine lv_iconst (v := 0) hx hb dX8_valuesBetween_0 (by decide) ?_
  refine lv_istore_n (lv' := [(3, .int 0), (0, .ref nwf), (1, .int a), (2, .int b)]) hx hb dX8_valuesBetween_1 rfl hl (by decide) rfl (fun ls hl => ?_)
  refine lv_iconst (v := 0) hx hb dX8_valuesBetween_2 (by decide) ?_
  refine lv_istore (lv' := [(4, .int 0), (3, .int 0), (0, .ref nwf), (1, .int a), (2, .int b)]) hx hb dX8_valuesBetween_3 hl (by decide) rfl (fun ls hl => ?_)
  refine lv_iload hx hb dX8_valuesBetween_5 (lv_at hl 0 rfl) ?_
  refine lv_aload_n hx hb dX8_valuesBetween_7 rfl (lv_at hl 2 rfl) ?_
  refine va_get (D := D) (ci := 8) (v := .int 0) (C := RX8) (T := TX8) (N := 5) hx hb htb inX8 hown hK hP 0 rfl rfl 4 (by decide) (htb _ tw_129) (fun _ h9 => h9) rfl dX8_valuesBetween_8 ?_
  refine lv_icmp_ge (tgt := 56) hx hb dX8_valuesBetween_11 (by decide) (fun _ => ?_) (fun c_1 => absurd (by decide) c_1)
  refine lv_iload_n hx hb dX8_valuesBetween_56 rfl (lv_at hl 1 rfl) ?_
  refine W.widen (k := 0) (n := 0) (by decide) (by decide) ?_
  exact wk_iret () hx hb hr hlocks rfl hK hP hD hS [0] rfl rfl dX8_valuesBetween_57
theorem dX8_allHeat_0 : decode cX8_allHeat 0 = .ok (.iconst 0, 1) := by decide +kernel
theorem dX8_allHeat_1 : decode cX8_allHeat 1 = .ok (.istore_n 1, 1) := by decide +kernel
theorem dX8_allHeat_2 : decode cX8_allHeat 2 = .ok (.iconst 0, 1) := by decide +kernel
theorem dX8_allHeat_3 : decode cX8_allHeat 3 = .ok (.istore_n 2, 1) := by decide +kernel
theorem dX8_allHeat_4 : decode cX8_allHeat 4 = .ok (.iload_n 2, 1) := by decide +kernel
theorem dX8_allHeat_5 : decode cX8_allHeat 5 = .ok (.aload_n 0, 1) := by decide +kernel
theorem dX8_allHeat_6 : decode cX8_allHeat 6 = .ok (.getfield 24, 3) := by decide +kernel
theorem dX8_allHeat_9 : decode cX8_allHeat 9 = .ok (.if_icmp .ge 18, 3) := by decide +kernel
theorem dX8_allHeat_27 : decode cX8_allHeat 27 = .ok (.iload_n 1, 1) := by decide +kernel
theorem dX8_allHeat_28 : decode cX8_allHeat 28 = .ok (.ireturn, 1) := by decide +kernel
set_option maxHeartbeats 4000000 in
set_option maxRecDepth 100000 in
theorem c_X8_allHeat (l : Launch) (D : va_G) (cy : ClassId) (nwf nwfk nwfv nwfh nwft : Nat) : wk_Ci l yX8_allHeat cX8_allHeat 3 (some .int) { frames := 0, cells := 0, slots := 0, locals := 0 } D cy [.ref nwf] [(nwf, .inr (8, [.ref nwfk, .ref nwfv, .ref nwfh, .ref nwft, .int 0]))] 0 0 (fun (r : Int32) (u : Unit) => r = 0) (fun u => [(nwf, .inr (8, [.ref nwfk, .ref nwfv, .ref nwfh, .ref nwft, .int 0]))]) := by
  refine wk_mkCi (by decide) (Nat.le_of_ble_eq_true rfl) ?_
  intro p e s m below meth c A ls B hA hK hP hD hS hl
  obtain ⟨hx, hb, hr, hlocks, hml, hown, htb, hin⟩ := B
  have hl : lv_has ls 3 [(0, .ref nwf)] := hl
  refine lv_iconst (v := 0) hx hb dX8_allHeat_0 (by decide) ?_
  refine lv_istore_n (lv' := [(1, .int 0), (0, .ref nwf)]) hx hb dX8_allHeat_1 rfl hl (by decide) rfl (fun ls hl => ?_)
  refine lv_iconst (v := 0) hx hb dX8_allHeat_2 (by decide) ?_
  refine lv_istore_n (lv' := [(2, .int 0), (1, .int 0), (0, .ref nwf)]) hx hb dX8_allHeat_3 rfl hl (by decide) rfl (fun ls hl => ?_)
  refine lv_iload_n hx hb dX8_allHeat_4 rfl (lv_at hl 0 rfl) ?_
  refine lv_aload_n hx hb dX8_allHeat_5 rfl (lv_at hl 2 rfl) ?_
  refine va_get (D := D) (ci := 8) (v := .int 0) (C := RX8) (T := TX8) (N := 5) hx hb htb inX8 hown hK hP 0 rfl rfl 4 (by decide) (htb _ tw_129) (fun _ h9 => h9) rfl dX8_allHeat_6 ?_
  refine lv_icmp_ge (tgt := 27) hx hb dX8_allHeat_9 (by decide) (fun _ => ?_) (fun c_1 => absurd (by decide) c_1)
  refine lv_iload_n hx hb dX8_allHeat_27 rfl (lv_at hl 1 rfl) ?_
  refine W.widen (k := 0) (n := 0) (by decide) (by decide) ?_
  exact wk_iret () hx hb hr hlocks rfl hK hP hD hS [0] rfl rfl dX8_allHeat_28
theorem dX4_clear_0 : decode cX4_clear 0 = .ok (.aload_n 0, 1) := by decide +kernel
theorem dX4_clear_1 : decode cX4_clear 1 = .ok (.getfield 21, 3) := by decide +kernel
theorem dX4_clear_4 : decode cX4_clear 4 = .ok (.istore_n 1, 1) := by decide +kernel
theorem dX4_clear_5 : decode cX4_clear 5 = .ok (.aload_n 0, 1) := by decide +kernel
theorem dX4_clear_6 : decode cX4_clear 6 = .ok (.iconst 0, 1) := by decide +kernel
theorem dX4_clear_7 : decode cX4_clear 7 = .ok (.putfield 21, 3) := by decide +kernel
theorem dX4_clear_10 : decode cX4_clear 10 = .ok (.iload_n 1, 1) := by decide +kernel
theorem dX4_clear_11 : decode cX4_clear 11 = .ok (.ireturn, 1) := by decide +kernel
set_option maxHeartbeats 4000000 in
set_option maxRecDepth 100000 in
theorem c_X4_clear (l : Launch) (D : va_G) (cy : ClassId) (nwe nwea nweb nwec : Nat) : wk_Ci l yX4_clear cX4_clear 2 (some .int) { frames := 0, cells := 0, slots := 0, locals := 0 } D cy [.ref nwe] [(nwe, .inr (4, [.ref nwea, .ref nweb, .ref nwec, .int 0]))] 0 0 (fun (r : Int32) (u : Unit) => r = 0) (fun u => []) := by
  refine wk_mkCi (by decide) (Nat.le_of_ble_eq_true rfl) ?_
  intro p e s m below meth c A ls B hA hK hP hD hS hl
  obtain ⟨hx, hb, hr, hlocks, hml, hown, htb, hin⟩ := B
  have hl : lv_has ls 2 [(0, .ref nwe)] := hl
  refine lv_aload_n hx hb dX4_clear_0 rfl (lv_at hl 0 rfl) ?_
  refine va_get (D := D) (ci := 4) (v := .int 0) (C := RX4) (T := TX4) (N := 4) hx hb htb inX4 hown hK hP 0 rfl rfl 3 (by decide) (htb _ tw_158) (fun _ h9 => h9) rfl dX4_clear_1 ?_
  refine lv_istore_n (lv' := [(1, .int 0), (0, .ref nwe)]) hx hb dX4_clear_4 rfl hl (by decide) rfl (fun ls hl => ?_)
  refine lv_aload_n hx hb dX4_clear_5 rfl (lv_at hl 1 rfl) ?_
  refine lv_iconst (v := 0) hx hb dX4_clear_6 (by decide) ?_
  refine va_put (D := D) (ci := 4) (v := .int 0) (ty := .int) (C := RX4) (T := TX4) (N := 4) hx hb htb inX4 tyX4 tyX4_ok nmX4 hown hK hP hD hS 0 rfl rfl 3 (by decide) (htb _ tw_158) (fun _ h9 => h9) rfl (by decide +kernel) rfl rfl (Nat.le_of_ble_eq_true rfl) dX4_clear_7 (fun H locs hP hD hS => ?_)
  have hP : va_P D classes [(nwe, .inr (4, [.ref nwea, .ref nweb, .ref nwec, .int 0]))] H := hP
  have hD : va_D A [(nwe, .inr (4, [.ref nwea, .ref nweb, .ref nwec, .int 0]))] := hD
  refine lv_iload_n hx hb dX4_clear_10 rfl (lv_at hl 0 rfl) ?_
  refine W.widen (k := 0) (n := 0) (by decide) (by decide) ?_
  exact wk_iret () hx hb hr hlocks rfl hK hP hD hS [] rfl rfl dX4_clear_11
theorem dX11_namesNoKey_0 : decode cX11_namesNoKey 0 = .ok (.iload_n 1, 1) := by decide +kernel
theorem dX11_namesNoKey_1 : decode cX11_namesNoKey 1 = .ok (.ifCond .lt 17, 3) := by decide +kernel
theorem dX11_namesNoKey_4 : decode cX11_namesNoKey 4 = .ok (.iload_n 1, 1) := by decide +kernel
theorem dX11_namesNoKey_5 : decode cX11_namesNoKey 5 = .ok (.aload_n 0, 1) := by decide +kernel
theorem dX11_namesNoKey_6 : decode cX11_namesNoKey 6 = .ok (.getfield 22, 3) := by decide +kernel
theorem dX11_namesNoKey_9 : decode cX11_namesNoKey 9 = .ok (.getfield 77, 3) := by decide +kernel
theorem dX11_namesNoKey_12 : decode cX11_namesNoKey 12 = .ok (.getfield 91, 3) := by decide +kernel
theorem dX11_namesNoKey_15 : decode cX11_namesNoKey 15 = .ok (.if_icmp .lt 7, 3) := by decide +kernel
theorem dX11_namesNoKey_18 : decode cX11_namesNoKey 18 = .ok (.iconst 1, 1) := by decide +kernel
theorem dX11_namesNoKey_19 : decode cX11_namesNoKey 19 = .ok (.goto 4, 3) := by decide +kernel
theorem dX11_namesNoKey_22 : decode cX11_namesNoKey 22 = .ok (.iconst 0, 1) := by decide +kernel
theorem dX11_namesNoKey_23 : decode cX11_namesNoKey 23 = .ok (.ireturn, 1) := by decide +kernel
set_option maxHeartbeats 4000000 in
set_option maxRecDepth 100000 in
theorem c_X11_namesNoKey (l : Launch) (D : va_G) (cy : ClassId) (x pg wr nw kp wk tr nwf nws nwe nwfk nwfv nwfh nwft : Nat) (a : Int32) : wk_Ci l yX11_namesNoKey cX11_namesNoKey 2 (some .boolean) { frames := 0, cells := 0, slots := 0, locals := 0 } D cy [.ref x, .int a] [(x, .inr (11, [.ref pg, .ref wr, .ref nw, .ref kp, .ref wk, .ref tr, .null, .int 0, .int 0, .int 0])), (nw, .inr (2, [.ref nwf, .ref nws, .ref nwe, .int 0, .int 0, .int 0])), (nwf, .inr (8, [.ref nwfk, .ref nwfv, .ref nwfh, .ref nwft, .int 0]))] 0 0 (fun (r : Int32) (u : Unit) => r = 1) (fun u => [(x, .inr (11, [.ref pg, .ref wr, .ref nw, .ref kp, .ref wk, .ref tr, .null, .int 0, .int 0, .int 0])), (nw, .inr (2, [.ref nwf, .ref nws, .ref nwe, .int 0, .int 0, .int 0])), (nwf, .inr (8, [.ref nwfk, .ref nwfv, .ref nwfh, .ref nwft, .int 0]))]) := by
  refine wk_mkCi (by decide) (Nat.le_of_ble_eq_true rfl) ?_
  intro p e s m below meth c A ls B hA hK hP hD hS hl
  obtain ⟨hx, hb, hr, hlocks, hml, hown, htb, hin⟩ := B
  have hl : lv_has ls 2 [(0, .ref x), (1, .int a)] := hl
  refine lv_iload_n hx hb dX11_namesNoKey_0 rfl (lv_at hl 1 rfl) ?_
  refine lv_if_lt (tgt := 18) hx hb dX11_namesNoKey_1 (by decide) (fun c_1 => ?_) (fun c_1 => ?_)
  · have k_1 : a.toInt < 0 := wk_lt c_1
    refine lv_iconst (v := 1) hx hb dX11_namesNoKey_18 (by decide) ?_
    refine lv_goto (tgt := 23) hx hb dX11_namesNoKey_19 (by decide) ?_
    refine W.widen (k := 0) (n := 0) (by decide) (by decide) ?_
    exact wk_zret () hx hb hr hlocks rfl rfl hK hP hD hS [0, 1, 2] rfl rfl dX11_namesNoKey_23
  · have k_1 : ¬ a.toInt < 0 := wk_nlt c_1
    refine lv_iload_n hx hb dX11_namesNoKey_4 rfl (lv_at hl 1 rfl) ?_
    refine lv_aload_n hx hb dX11_namesNoKey_5 rfl (lv_at hl 0 rfl) ?_
    refine va_get (D := D) (ci := 11) (v := .ref nw) (C := RX11) (T := TX11) (N := 10) hx hb htb inX11 hown hK hP 0 rfl rfl 2 (by decide) (htb _ tw_254) (fun _ h9 => h9) rfl dX11_namesNoKey_6 ?_
    refine va_get (D := D) (ci := 2) (v := .ref nwf) (C := RX2) (T := TX2) (N := 6) hx hb htb inX2 hown hK hP 1 rfl rfl 0 (by decide) (htb _ tw_171) (fun _ h9 => h9) rfl dX11_namesNoKey_9 ?_
    refine va_get (D := D) (ci := 8) (v := .int 0) (C := RX8) (T := TX8) (N := 5) hx hb htb inX8 hown hK hP 2 rfl rfl 4 (by decide) (htb _ tw_134) (fun _ h9 => h9) rfl dX11_namesNoKey_12 ?_
    refine lv_icmp_lt (tgt := 22) hx hb dX11_namesNoKey_15 (by decide) (fun c_2 => ?_) (fun c_2 => ?_)
    · have k_2 : a.toInt < 0 := wk_lt c_2
      refine lv_iconst (v := 0) hx hb dX11_namesNoKey_22 (by decide) ?_
      refine W.widen (k := 0) (n := 0) (by decide) (by decide) ?_
      exact wk_zret () hx hb hr hlocks rfl (by exfalso; omega) hK hP hD hS [0, 1, 2] rfl rfl dX11_namesNoKey_23
    · have k_2 : ¬ a.toInt < 0 := wk_nlt c_2
      refine lv_iconst (v := 1) hx hb dX11_namesNoKey_18 (by decide) ?_
      refine lv_goto (tgt := 23) hx hb dX11_namesNoKey_19 (by decide) ?_
      refine W.widen (k := 0) (n := 0) (by decide) (by decide) ?_
      exact wk_zret () hx hb hr hlocks rfl rfl hK hP hD hS [0, 1, 2] rfl rfl dX11_namesNoKey_23
theorem dX11_isNoKey_0 : decode cX11_isNoKey 0 = .ok (.iload_n 0, 1) := by decide +kernel
theorem dX11_isNoKey_1 : decode cX11_isNoKey 1 = .ok (.ifCond .lt 9, 3) := by decide +kernel
theorem dX11_isNoKey_4 : decode cX11_isNoKey 4 = .ok (.iload_n 0, 1) := by decide +kernel
theorem dX11_isNoKey_5 : decode cX11_isNoKey 5 = .ok (.bipush 99, 2) := by decide +kernel
theorem dX11_isNoKey_7 : decode cX11_isNoKey 7 = .ok (.if_icmp .le 7, 3) := by decide +kernel
theorem dX11_isNoKey_10 : decode cX11_isNoKey 10 = .ok (.iconst 1, 1) := by decide +kernel
theorem dX11_isNoKey_11 : decode cX11_isNoKey 11 = .ok (.goto 4, 3) := by decide +kernel
theorem dX11_isNoKey_14 : decode cX11_isNoKey 14 = .ok (.iconst 0, 1) := by decide +kernel
theorem dX11_isNoKey_15 : decode cX11_isNoKey 15 = .ok (.ireturn, 1) := by decide +kernel
set_option maxHeartbeats 4000000 in
set_option maxRecDepth 100000 in
theorem c_X11_isNoKey (l : Launch) (D : va_G) (cy : ClassId) (a : Int32) : wk_Ci l yX11_isNoKey cX11_isNoKey 1 (some .boolean) { frames := 0, cells := 0, slots := 0, locals := 0 } D cy [.int a] [] 0 0 (fun (r : Int32) (u : Unit) => r = if (0 ≤ a.toInt ∧ a.toInt ≤ 99) then 0 else 1) (fun u => []) := by
  refine wk_mkCi (by decide) (Nat.le_of_ble_eq_true rfl) ?_
  intro p e s m below meth c A ls B hA hK hP hD hS hl
  obtain ⟨hx, hb, hr, hlocks, hml, hown, htb, hin⟩ := B
  have hl : lv_has ls 1 [(0, .int a)] := hl
  refine lv_iload_n hx hb dX11_isNoKey_0 rfl (lv_at hl 0 rfl) ?_
  refine lv_if_lt (tgt := 10) hx hb dX11_isNoKey_1 (by decide) (fun c_1 => ?_) (fun c_1 => ?_)
  · have k_1 : a.toInt < 0 := wk_lt c_1
    refine lv_iconst (v := 1) hx hb dX11_isNoKey_10 (by decide) ?_
    refine lv_goto (tgt := 15) hx hb dX11_isNoKey_11 (by decide) ?_
    refine W.widen (k := 0) (n := 0) (by decide) (by decide) ?_
    exact wk_zret () hx hb hr hlocks rfl (if_neg (by omega)).symm hK hP hD hS [] rfl rfl dX11_isNoKey_15
  · have k_1 : ¬ a.toInt < 0 := wk_nlt c_1
    refine lv_iload_n hx hb dX11_isNoKey_4 rfl (lv_at hl 0 rfl) ?_
    refine lv_bipush (v := 99) hx hb dX11_isNoKey_5 (by decide) ?_
    refine lv_icmp_le (tgt := 14) hx hb dX11_isNoKey_7 (by decide) (fun c_2 => ?_) (fun c_2 => ?_)
    · have k_2 : a.toInt ≤ 99 := wk_le c_2
      refine lv_iconst (v := 0) hx hb dX11_isNoKey_14 (by decide) ?_
      refine W.widen (k := 0) (n := 0) (by decide) (by decide) ?_
      exact wk_zret () hx hb hr hlocks rfl (if_pos (by omega)).symm hK hP hD hS [] rfl rfl dX11_isNoKey_15
    · have k_2 : ¬ a.toInt ≤ 99 := wk_nle c_2
      refine lv_iconst (v := 1) hx hb dX11_isNoKey_10 (by decide) ?_
      refine lv_goto (tgt := 15) hx hb dX11_isNoKey_11 (by decide) ?_
      refine W.widen (k := 0) (n := 0) (by decide) (by decide) ?_
      exact wk_zret () hx hb hr hlocks rfl (if_neg (by omega)).symm hK hP hD hS [] rfl rfl dX11_isNoKey_15
theorem dX11_withCodes_0 : decode cX11_withCodes 0 = .ok (.lload_n 0, 1) := by decide +kernel
theorem dX11_withCodes_1 : decode cX11_withCodes 1 = .ok (.lstore 4, 2) := by decide +kernel
theorem dX11_withCodes_3 : decode cX11_withCodes 3 = .ok (.iconst 0, 1) := by decide +kernel
theorem dX11_withCodes_4 : decode cX11_withCodes 4 = .ok (.istore 6, 2) := by decide +kernel
theorem dX11_withCodes_6 : decode cX11_withCodes 6 = .ok (.iload 6, 2) := by decide +kernel
theorem dX11_withCodes_8 : decode cX11_withCodes 8 = .ok (.iload_n 3, 1) := by decide +kernel
theorem dX11_withCodes_9 : decode cX11_withCodes 9 = .ok (.if_icmp .ge 30, 3) := by decide +kernel
theorem dX11_withCodes_39 : decode cX11_withCodes 39 = .ok (.lload 4, 2) := by decide +kernel
theorem dX11_withCodes_41 : decode cX11_withCodes 41 = .ok (.lreturn, 1) := by decide +kernel
set_option maxHeartbeats 4000000 in
set_option maxRecDepth 100000 in
theorem c_X11_withCodes (l : Launch) (D : va_G) (cy : ClassId) (pgc : Nat) (h : Int64) : wk_Cl l yX11_withCodes cX11_withCodes 7 (some .long) { frames := 0, cells := 0, slots := 0, locals := 0 } D cy [.long h, .ref pgc, .int 0] [] 0 0 (fun (r : Int64) (u : Unit) => r = h) (fun u => []) := by
  refine wk_mkCl (by decide) (Nat.le_of_ble_eq_true rfl) ?_
  intro p e s m below meth c A ls B hA hK hP hD hS hl
  obtain ⟨hx, hb, hr, hlocks, hml, hown, htb, hin⟩ := B
  have hl : lv_has ls 7 [(0, .long h), (2, .ref pgc), (3, .int 0)] := hl
  refine lv_lload_n hx hb dX11_withCodes_0 rfl (lv_at hl 0 rfl) ?_
  refine lv_lstore (lv' := [(4, .long h), (0, .long h), (2, .ref pgc), (3, .int 0)]) hx hb dX11_withCodes_1 hl (by decide) rfl (fun ls hl => ?_)
  refine lv_iconst (v := 0) hx hb dX11_withCodes_3 (by decide) ?_
  refine lv_istore (lv' := [(6, .int 0), (4, .long h), (0, .long h), (2, .ref pgc), (3, .int 0)]) hx hb dX11_withCodes_4 hl (by decide) rfl (fun ls hl => ?_)
  refine lv_iload hx hb dX11_withCodes_6 (lv_at hl 0 rfl) ?_
  refine lv_iload_n hx hb dX11_withCodes_8 rfl (lv_at hl 4 rfl) ?_
  refine lv_icmp_ge (tgt := 39) hx hb dX11_withCodes_9 (by decide) (fun _ => ?_) (fun c_1 => absurd (by decide) c_1)
  refine lv_lload hx hb dX11_withCodes_39 (lv_at hl 1 rfl) ?_
  refine W.widen (k := 0) (n := 0) (by decide) (by decide) ?_
  exact wk_lret () hx hb hr hlocks rfl hK hP hD hS [] rfl rfl dX11_withCodes_41
