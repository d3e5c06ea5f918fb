theorem dX11_letter_0 : decode cX11_letter 0 = .ok (.iload_n 1, 1) := by decide +kernel
theorem dX11_letter_1 : decode cX11_letter 1 = .ok (.iconst 1, 1) := by decide +kernel
theorem dX11_letter_2 : decode cX11_letter 2 = .ok (.if_icmp .lt 9, 3) := by decide +kernel
theorem dX11_letter_5 : decode cX11_letter 5 = .ok (.iload_n 1, 1) := by decide +kernel
theorem dX11_letter_6 : decode cX11_letter 6 = .ok (.bipush 126, 2) := by decide +kernel
theorem dX11_letter_8 : decode cX11_letter 8 = .ok (.if_icmp .le 6, 3) := by decide +kernel
theorem dX11_letter_11 : decode cX11_letter 11 = .ok (.bipush (-102), 2) := by decide +kernel
theorem dX11_letter_13 : decode cX11_letter 13 = .ok (.ireturn, 1) := by decide +kernel
theorem dX11_letter_14 : decode cX11_letter 14 = .ok (.aload_n 0, 1) := by decide +kernel
theorem dX11_letter_15 : decode cX11_letter 15 = .ok (.getfield 10, 3) := by decide +kernel
theorem dX11_letter_18 : decode cX11_letter 18 = .ok (.getfield 43, 3) := by decide +kernel
theorem dX11_letter_21 : decode cX11_letter 21 = .ok (.bipush 44, 2) := by decide +kernel
theorem dX11_letter_23 : decode cX11_letter 23 = .ok (.if_icmp .lt 6, 3) := by decide +kernel
theorem dX11_letter_29 : decode cX11_letter 29 = .ok (.aload_n 0, 1) := by decide +kernel
theorem dX11_letter_30 : decode cX11_letter 30 = .ok (.getfield 10, 3) := by decide +kernel
theorem dX11_letter_33 : decode cX11_letter 33 = .ok (.iload_n 1, 1) := by decide +kernel
theorem dX11_letter_34 : decode cX11_letter 34 = .ok (.invokevirtual 47, 3) := by decide +kernel
theorem dX11_letter_37 : decode cX11_letter 37 = .ok (.ireturn, 1) := by decide +kernel
set_option maxHeartbeats 4000000 in
set_option maxRecDepth 100000 in
theorem c_X11_letter (l : Launch) (D : va_G) (cy : ClassId) (x pg wr nw kp wk tr pgc : Nat) (a : Int32) : wk_Ci l yX11_letter cX11_letter 2 (some .int) { frames := 1, cells := 0, slots := 0, locals := 21 } D cy [.ref x, .int a] [(x, .inr (11, [.ref pg, .ref wr, .ref nw, .ref kp, .ref wk, .ref tr, .null, .int 0, .int 0, .int 0])), (pg, .inr (6, [.ref pgc, .int 0])), (pgc, .inl (cy, 44, .inl (fun _ => 0)))] 0 0 (fun (r : Int32) (u : Unit) => r = if (1 ≤ a.toInt ∧ a.toInt ≤ 126) then 1 else (-102)) (fun u => []) := by
  refine wk_mkCi (by decide) (Nat.le_of_ble_eq_true rfl) ?_
  intro p e s m below meth c A ls B hA hK hP hD hS hl
  obtain ⟨hx, hb, hr, hlocks, hml, hown, htb, hin⟩ := B
  have hl : lv_has ls 2 [(0, .ref x), (1, .int a)] := hl
  refine lv_iload_n hx hb dX11_letter_0 rfl (lv_at hl 1 rfl) ?_
  refine lv_iconst (v := 1) hx hb dX11_letter_1 (by decide) ?_
  refine lv_icmp_lt (tgt := 11) hx hb dX11_letter_2 (by decide) (fun c_1 => ?_) (fun c_1 => ?_)
  · have k_1 : a.toInt < 1 := wk_lt c_1
    refine lv_bipush (v := (-102)) hx hb dX11_letter_11 (by decide) ?_
    refine W.widen (k := 0) (n := 0) (by decide) (by decide) ?_
    exact wk_iret () hx hb hr hlocks (if_neg (by omega)).symm hK hP hD hS [] rfl rfl dX11_letter_13
  · have k_1 : ¬ a.toInt < 1 := wk_nlt c_1
    refine lv_iload_n hx hb dX11_letter_5 rfl (lv_at hl 1 rfl) ?_
    refine lv_bipush (v := 126) hx hb dX11_letter_6 (by decide) ?_
    refine lv_icmp_le (tgt := 14) hx hb dX11_letter_8 (by decide) (fun c_2 => ?_) (fun c_2 => ?_)
    · have k_2 : a.toInt ≤ 126 := wk_le c_2
      refine lv_aload_n hx hb dX11_letter_14 rfl (lv_at hl 0 rfl) ?_
      refine va_get (D := D) (ci := 11) (v := .ref pg) (C := RX11) (T := TX11) (N := 10) hx hb htb inX11 hown hK hP 0 rfl rfl 0 (by decide) (htb _ tw_252) (fun _ h9 => h9) rfl dX11_letter_15 ?_
      refine va_get (D := D) (ci := 6) (v := .int 0) (C := RX6) (T := TX6) (N := 2) hx hb htb inX6 hown hK hP 1 rfl rfl 1 (by decide) (htb _ tw_95) (fun _ h9 => h9) rfl dX11_letter_18 ?_
      refine lv_bipush (v := 44) hx hb dX11_letter_21 (by decide) ?_
      refine lv_icmp_lt (tgt := 29) hx hb dX11_letter_23 (by decide) (fun _ => ?_) (fun c_3 => absurd (by decide) c_3)
      refine lv_aload_n hx hb dX11_letter_29 rfl (lv_at hl 0 rfl) ?_
      refine va_get (D := D) (ci := 11) (v := .ref pg) (C := RX11) (T := TX11) (N := 10) hx hb htb inX11 hown hK hP 0 rfl rfl 0 (by decide) (htb _ tw_252) (fun _ h9 => h9) rfl dX11_letter_30 ?_
      refine lv_iload_n hx hb dX11_letter_33 rfl (lv_at hl 1 rfl) ?_
      refine wk_iV (As := [.int a]) (rest := []) (wc := [(pg, .inr (6, [.ref pgc, .int 0])), (pgc, .inl (cy, 44, .inl (fun _ => 0)))]) (wr := [(x, .inr (11, [.ref pg, .ref wr, .ref nw, .ref kp, .ref wk, .ref tr, .null, .int 0, .int 0, .int 0]))]) (n := 1) (R := _) ⟨hx, hb, hml, hown, htb⟩ (c_X6_add l D cy pg pgc a ) tw_290 tw_287 tw_288 tw_289 tw_65 rfl rfl (by decide +kernel) ⟨Nat.le_of_ble_eq_true rfl, Nat.le_of_ble_eq_true rfl⟩ hK hP hD hS hA [1, 2] [0] rfl rfl rfl rfl (by decide) 0 (ci := 6) rfl rfl rfl hl.1 rfl (Nat.le_of_ble_eq_true rfl) dX11_letter_34 ⟨Nat.le_of_ble_eq_true rfl, Nat.le_of_ble_eq_true rfl⟩ (fun r_4 u_5 H locs hw_6 hP hD hS => ?_)
      refine W.widen (k := 0) (n := 0) (by decide) (by decide) ?_
      have hw_6 : r_4 = 1 := hw_6
      subst hw_6
      have hP : va_P D classes [(x, .inr (11, [.ref pg, .ref wr, .ref nw, .ref kp, .ref wk, .ref tr, .null, .int 0, .int 0, .int 0]))] H := hP
      have hD : va_D A [(x, .inr (11, [.ref pg, .ref wr, .ref nw, .ref kp, .ref wk, .ref tr, .null, .int 0, .int 0, .int 0]))] := hD
      refine W.widen (k := 0) (n := 0) (by decide) (by decide) ?_
      exact wk_iret () hx hb hr hlocks (if_pos (by omega)).symm hK hP hD hS [] rfl rfl dX11_letter_37
    · have k_2 : ¬ a.toInt ≤ 126 := wk_nle c_2
      refine lv_bipush (v := (-102)) hx hb dX11_letter_11 (by decide) ?_
      refine W.widen (k := 0) (n := 0) (by decide) (by decide) ?_
      exact wk_iret () hx hb hr hlocks (if_neg (by omega)).symm hK hP hD hS [] rfl rfl dX11_letter_13
theorem dX11_blank_0 : decode cX11_blank 0 = .ok (.aload_n 0, 1) := by decide +kernel
theorem dX11_blank_1 : decode cX11_blank 1 = .ok (.getfield 10, 3) := by decide +kernel
theorem dX11_blank_4 : decode cX11_blank 4 = .ok (.invokevirtual 51, 3) := by decide +kernel
theorem dX11_blank_7 : decode cX11_blank 7 = .ok (.ireturn, 1) := by decide +kernel
set_option maxHeartbeats 4000000 in
set_option maxRecDepth 100000 in
theorem c_X11_blank (l : Launch) (D : va_G) (cy : ClassId) (x pg wr nw kp wk tr pgc : Nat) : wk_Ci l yX11_blank cX11_blank 1 (some .int) { frames := 1, cells := 0, slots := 0, locals := 21 } D cy [.ref x] [(x, .inr (11, [.ref pg, .ref wr, .ref nw, .ref kp, .ref wk, .ref tr, .null, .int 0, .int 0, .int 0])), (pg, .inr (6, [.ref pgc, .int 0]))] 0 0 (fun (r : Int32) (u : Unit) => r = 0) (fun u => []) := by
  refine wk_mkCi (by decide) (Nat.le_of_ble_eq_true rfl) ?_
  intro p e s m below meth c A ls B hA hK hP hD hS hl
  obtain ⟨hx, hb, hr, hlocks, hml, hown, htb, hin⟩ := B
  have hl : lv_has ls 1 [(0, .ref x)] := hl
  refine lv_aload_n hx hb dX11_blank_0 rfl (lv_at hl 0 rfl) ?_
  refine va_get (D := D) (ci := 11) (v := .ref pg) (C := RX11) (T := TX11) (N := 10) hx hb htb inX11 hown hK hP 0 rfl rfl 0 (by decide) (htb _ tw_252) (fun _ h9 => h9) rfl dX11_blank_1 ?_
  refine wk_iV (As := []) (rest := []) (wc := [(pg, .inr (6, [.ref pgc, .int 0]))]) (wr := [(x, .inr (11, [.ref pg, .ref wr, .ref nw, .ref kp, .ref wk, .ref tr, .null, .int 0, .int 0, .int 0]))]) (n := 0) (R := _) ⟨hx, hb, hml, hown, htb⟩ (c_X6_clear l D cy pg pgc  ) tw_298 tw_295 tw_296 tw_297 tw_65 rfl rfl (by decide +kernel) ⟨Nat.le_of_ble_eq_true rfl, Nat.le_of_ble_eq_true rfl⟩ hK hP hD hS hA [1] [0] rfl rfl rfl rfl (by decide) 0 (ci := 6) rfl rfl rfl hl.1 rfl (Nat.le_of_ble_eq_true rfl) dX11_blank_4 ⟨Nat.le_of_ble_eq_true rfl, Nat.le_of_ble_eq_true rfl⟩ (fun r_1 u_2 H locs hw_3 hP hD hS => ?_)
  refine W.widen (k := 0) (n := 0) (by decide) (by decide) ?_
  have hw_3 : r_1 = 0 := hw_3
  subst hw_3
  have hP : va_P D classes [(x, .inr (11, [.ref pg, .ref wr, .ref nw, .ref kp, .ref wk, .ref tr, .null, .int 0, .int 0, .int 0]))] H := hP
  have hD : va_D A [(x, .inr (11, [.ref pg, .ref wr, .ref nw, .ref kp, .ref wk, .ref tr, .null, .int 0, .int 0, .int 0]))] := hD
  refine W.widen (k := 0) (n := 0) (by decide) (by decide) ?_
  exact wk_iret () hx hb hr hlocks rfl hK hP hD hS [] rfl rfl dX11_blank_7
theorem dX11_fault_0 : decode cX11_fault 0 = .ok (.aload_n 0, 1) := by decide +kernel
theorem dX11_fault_1 : decode cX11_fault 1 = .ok (.getfield 10, 3) := by decide +kernel
theorem dX11_fault_4 : decode cX11_fault 4 = .ok (.invokevirtual 55, 3) := by decide +kernel
theorem dX11_fault_7 : decode cX11_fault 7 = .ok (.ireturn, 1) := by decide +kernel
set_option maxHeartbeats 4000000 in
set_option maxRecDepth 100000 in
theorem c_X11_fault (l : Launch) (D : va_G) (cy : ClassId) (x pg wr nw kp wk tr pgc : Nat) : wk_Ci l yX11_fault cX11_fault 1 (some .int) { frames := 2, cells := 0, slots := 0, locals := 44 } D cy [.ref x] [(x, .inr (11, [.ref pg, .ref wr, .ref nw, .ref kp, .ref wk, .ref tr, .null, .int 0, .int 0, .int 0])), (pg, .inr (6, [.ref pgc, .int 0]))] 0 0 (fun (r : Int32) (u : Unit) => r = 0) (fun u => [(x, .inr (11, [.ref pg, .ref wr, .ref nw, .ref kp, .ref wk, .ref tr, .null, .int 0, .int 0, .int 0])), (pg, .inr (6, [.ref pgc, .int 0]))]) := by
  refine wk_mkCi (by decide) (Nat.le_of_ble_eq_true rfl) ?_
  intro p e s m below meth c A ls B hA hK hP hD hS hl
  obtain ⟨hx, hb, hr, hlocks, hml, hown, htb, hin⟩ := B
  have hl : lv_has ls 1 [(0, .ref x)] := hl
  refine lv_aload_n hx hb dX11_fault_0 rfl (lv_at hl 0 rfl) ?_
  refine va_get (D := D) (ci := 11) (v := .ref pg) (C := RX11) (T := TX11) (N := 10) hx hb htb inX11 hown hK hP 0 rfl rfl 0 (by decide) (htb _ tw_252) (fun _ h9 => h9) rfl dX11_fault_1 ?_
  refine wk_iV (As := []) (rest := []) (wc := [(pg, .inr (6, [.ref pgc, .int 0]))]) (wr := [(x, .inr (11, [.ref pg, .ref wr, .ref nw, .ref kp, .ref wk, .ref tr, .null, .int 0, .int 0, .int 0]))]) (n := 0) (R := _) ⟨hx, hb, hml, hown, htb⟩ (c_X6_firstFault l D cy pg pgc  ) tw_306 tw_303 tw_304 tw_305 tw_65 rfl rfl (by decide +kernel) ⟨Nat.le_of_ble_eq_true rfl, Nat.le_of_ble_eq_true rfl⟩ hK hP hD hS hA [1] [0] rfl rfl rfl rfl (by decide) 0 (ci := 6) rfl rfl rfl hl.1 rfl (Nat.le_of_ble_eq_true rfl) dX11_fault_4 ⟨Nat.le_of_ble_eq_true rfl, Nat.le_of_ble_eq_true rfl⟩ (fun r_1 u_2 H locs hw_3 hP hD hS => ?_)
  refine W.widen (k := 0) (n := 0) (by decide) (by decide) ?_
  have hw_3 : r_1 = 0 := hw_3
  subst hw_3
  have hP : va_P D classes [(x, .inr (11, [.ref pg, .ref wr, .ref nw, .ref kp, .ref wk, .ref tr, .null, .int 0, .int 0, .int 0])), (pg, .inr (6, [.ref pgc, .int 0]))] H := hP
  have hD : va_D A [(x, .inr (11, [.ref pg, .ref wr, .ref nw, .ref kp, .ref wk, .ref tr, .null, .int 0, .int 0, .int 0])), (pg, .inr (6, [.ref pgc, .int 0]))] := hD
  refine W.widen (k := 0) (n := 0) (by decide) (by decide) ?_
  exact wk_iret () hx hb hr hlocks rfl hK hP hD hS [0, 1] rfl rfl dX11_fault_7
theorem dX11_row_0 : decode cX11_row 0 = .ok (.aload_n 0, 1) := by decide +kernel
theorem dX11_row_1 : decode cX11_row 1 = .ok (.getfield 10, 3) := by decide +kernel
theorem dX11_row_4 : decode cX11_row 4 = .ok (.invokevirtual 58, 3) := by decide +kernel
theorem dX11_row_7 : decode cX11_row 7 = .ok (.iconst (-1), 1) := by decide +kernel
theorem dX11_row_8 : decode cX11_row 8 = .ok (.if_icmp .ne 6, 3) := by decide +kernel
theorem dX11_row_11 : decode cX11_row 11 = .ok (.bipush (-103), 2) := by decide +kernel
theorem dX11_row_13 : decode cX11_row 13 = .ok (.ireturn, 1) := by decide +kernel
set_option maxHeartbeats 4000000 in
set_option maxRecDepth 100000 in
theorem c_X11_row (l : Launch) (D : va_G) (cy : ClassId) (x pg wr nw kp wk tr pgc : Nat) : wk_Ci l yX11_row cX11_row 1 (some .int) { frames := 2, cells := 0, slots := 0, locals := 42 } D cy [.ref x] [(x, .inr (11, [.ref pg, .ref wr, .ref nw, .ref kp, .ref wk, .ref tr, .null, .int 0, .int 0, .int 0])), (pg, .inr (6, [.ref pgc, .int 0]))] 0 0 (fun (r : Int32) (u : Unit) => r = (-103)) (fun u => [(x, .inr (11, [.ref pg, .ref wr, .ref nw, .ref kp, .ref wk, .ref tr, .null, .int 0, .int 0, .int 0])), (pg, .inr (6, [.ref pgc, .int 0]))]) := by
  refine wk_mkCi (by decide) (Nat.le_of_ble_eq_true rfl) ?_
  intro p e s m below meth c A ls B hA hK hP hD hS hl
  obtain ⟨hx, hb, hr, hlocks, hml, hown, htb, hin⟩ := B
  have hl : lv_has ls 1 [(0, .ref x)] := hl
  refine lv_aload_n hx hb dX11_row_0 rfl (lv_at hl 0 rfl) ?_
  refine va_get (D := D) (ci := 11) (v := .ref pg) (C := RX11) (T := TX11) (N := 10) hx hb htb inX11 hown hK hP 0 rfl rfl 0 (by decide) (htb _ tw_252) (fun _ h9 => h9) rfl dX11_row_1 ?_
  refine wk_iV (As := []) (rest := []) (wc := [(pg, .inr (6, [.ref pgc, .int 0]))]) (wr := [(x, .inr (11, [.ref pg, .ref wr, .ref nw, .ref kp, .ref wk, .ref tr, .null, .int 0, .int 0, .int 0]))]) (n := 0) (R := _) ⟨hx, hb, hml, hown, htb⟩ (c_X6_keysTold l D cy pg pgc  ) tw_330 tw_327 tw_328 tw_329 tw_65 rfl rfl (by decide +kernel) ⟨Nat.le_of_ble_eq_true rfl, Nat.le_of_ble_eq_true rfl⟩ hK hP hD hS hA [1] [0] rfl rfl rfl rfl (by decide) 0 (ci := 6) rfl rfl rfl hl.1 rfl (Nat.le_of_ble_eq_true rfl) dX11_row_4 ⟨Nat.le_of_ble_eq_true rfl, Nat.le_of_ble_eq_true rfl⟩ (fun r_1 u_2 H locs hw_3 hP hD hS => ?_)
  refine W.widen (k := 0) (n := 0) (by decide) (by decide) ?_
  have hw_3 : r_1 = (-1) := hw_3
  subst hw_3
  have hP : va_P D classes [(x, .inr (11, [.ref pg, .ref wr, .ref nw, .ref kp, .ref wk, .ref tr, .null, .int 0, .int 0, .int 0])), (pg, .inr (6, [.ref pgc, .int 0]))] H := hP
  have hD : va_D A [(x, .inr (11, [.ref pg, .ref wr, .ref nw, .ref kp, .ref wk, .ref tr, .null, .int 0, .int 0, .int 0])), (pg, .inr (6, [.ref pgc, .int 0]))] := hD
  refine lv_iconst (v := (-1)) hx hb dX11_row_7 (by decide) ?_
  refine lv_icmp_ne (tgt := 14) hx hb dX11_row_8 (by decide) (fun c_4 => absurd (by decide) c_4) (fun _ => ?_)
  refine lv_bipush (v := (-103)) hx hb dX11_row_11 (by decide) ?_
  refine W.widen (k := 0) (n := 0) (by decide) (by decide) ?_
  exact wk_iret () hx hb hr hlocks rfl hK hP hD hS [0, 1] rfl rfl dX11_row_13
theorem dX11_tape_0 : decode cX11_tape 0 = .ok (.iload_n 1, 1) := by decide +kernel
theorem dX11_tape_1 : decode cX11_tape 1 = .ok (.ifCond .lt 9, 3) := by decide +kernel
theorem dX11_tape_4 : decode cX11_tape 4 = .ok (.iload_n 1, 1) := by decide +kernel
theorem dX11_tape_5 : decode cX11_tape 5 = .ok (.bipush 50, 2) := by decide +kernel
theorem dX11_tape_7 : decode cX11_tape 7 = .ok (.if_icmp .le 6, 3) := by decide +kernel
theorem dX11_tape_10 : decode cX11_tape 10 = .ok (.bipush (-102), 2) := by decide +kernel
theorem dX11_tape_12 : decode cX11_tape 12 = .ok (.ireturn, 1) := by decide +kernel
theorem dX11_tape_13 : decode cX11_tape 13 = .ok (.aload_n 0, 1) := by decide +kernel
theorem dX11_tape_14 : decode cX11_tape 14 = .ok (.getfield 71, 3) := by decide +kernel
theorem dX11_tape_17 : decode cX11_tape 17 = .ok (.ifnonnull 6, 3) := by decide +kernel
theorem dX11_tape_20 : decode cX11_tape 20 = .ok (.bipush (-103), 2) := by decide +kernel
theorem dX11_tape_22 : decode cX11_tape 22 = .ok (.ireturn, 1) := by decide +kernel
set_option maxHeartbeats 4000000 in
set_option maxRecDepth 100000 in
theorem c_X11_tape (l : Launch) (D : va_G) (cy : ClassId) (x pg wr nw kp wk tr : Nat) (a : Int32) : wk_Ci l yX11_tape cX11_tape 2 (some .int) { frames := 0, cells := 0, slots := 0, locals := 0 } D cy [.ref x, .int a] [(x, .inr (11, [.ref pg, .ref wr, .ref nw, .ref kp, .ref wk, .ref tr, .null, .int 0, .int 0, .int 0]))] 0 0 (fun (r : Int32) (u : Unit) => r = if (0 ≤ a.toInt ∧ a.toInt ≤ 50) then (-103) else (-102)) (fun u => [(x, .inr (11, [.ref pg, .ref wr, .ref nw, .ref kp, .ref wk, .ref tr, .null, .int 0, .int 0, .int 0]))]) := by
  refine wk_mkCi (by decide) (Nat.le_of_ble_eq_true rfl) ?_
  intro p e s m below meth c A ls B hA hK hP hD hS hl
  obtain ⟨hx, hb, hr, hlocks, hml, hown, htb, hin⟩ := B
  have hl : lv_has ls 2 [(0, .ref x), (1, .int a)] := hl
  refine lv_iload_n hx hb dX11_tape_0 rfl (lv_at hl 1 rfl) ?_
  refine lv_if_lt (tgt := 10) hx hb dX11_tape_1 (by decide) (fun c_1 => ?_) (fun c_1 => ?_)
  · have k_1 : a.toInt < 0 := wk_lt c_1
    refine lv_bipush (v := (-102)) hx hb dX11_tape_10 (by decide) ?_
    refine W.widen (k := 0) (n := 0) (by decide) (by decide) ?_
    exact wk_iret () hx hb hr hlocks (if_neg (by omega)).symm hK hP hD hS [0] rfl rfl dX11_tape_12
  · have k_1 : ¬ a.toInt < 0 := wk_nlt c_1
    refine lv_iload_n hx hb dX11_tape_4 rfl (lv_at hl 1 rfl) ?_
    refine lv_bipush (v := 50) hx hb dX11_tape_5 (by decide) ?_
    refine lv_icmp_le (tgt := 13) hx hb dX11_tape_7 (by decide) (fun c_2 => ?_) (fun c_2 => ?_)
    · have k_2 : a.toInt ≤ 50 := wk_le c_2
      refine lv_aload_n hx hb dX11_tape_13 rfl (lv_at hl 0 rfl) ?_
      refine va_get (D := D) (ci := 11) (v := .null) (C := RX11) (T := TX11) (N := 10) hx hb htb inX11 hown hK hP 0 rfl rfl 6 (by decide) (htb _ tw_258) (fun _ h9 => h9) rfl dX11_tape_14 ?_
      refine lv_ifnonnullN hx hb dX11_tape_17 ?_
      refine lv_bipush (v := (-103)) hx hb dX11_tape_20 (by decide) ?_
      refine W.widen (k := 0) (n := 0) (by decide) (by decide) ?_
      exact wk_iret () hx hb hr hlocks (if_pos (by omega)).symm hK hP hD hS [0] rfl rfl dX11_tape_22
    · have k_2 : ¬ a.toInt ≤ 50 := wk_nle c_2
      refine lv_bipush (v := (-102)) hx hb dX11_tape_10 (by decide) ?_
      refine W.widen (k := 0) (n := 0) (by decide) (by decide) ?_
      exact wk_iret () hx hb hr hlocks (if_neg (by omega)).symm hK hP hD hS [0] rfl rfl dX11_tape_12
theorem dX11_as_0 : decode cX11_as 0 = .ok (.iload_n 1, 1) := by decide +kernel
theorem dX11_as_1 : decode cX11_as 1 = .ok (.ifCond .lt 8, 3) := by decide +kernel
theorem dX11_as_4 : decode cX11_as 4 = .ok (.iload_n 1, 1) := by decide +kernel
theorem dX11_as_5 : decode cX11_as 5 = .ok (.iconst 4, 1) := by decide +kernel
theorem dX11_as_6 : decode cX11_as 6 = .ok (.if_icmp .le 6, 3) := by decide +kernel
theorem dX11_as_9 : decode cX11_as 9 = .ok (.bipush (-102), 2) := by decide +kernel
theorem dX11_as_11 : decode cX11_as 11 = .ok (.ireturn, 1) := by decide +kernel
theorem dX11_as_12 : decode cX11_as 12 = .ok (.aload_n 0, 1) := by decide +kernel
theorem dX11_as_13 : decode cX11_as 13 = .ok (.getfield 71, 3) := by decide +kernel
theorem dX11_as_16 : decode cX11_as 16 = .ok (.ifnonnull 6, 3) := by decide +kernel
theorem dX11_as_19 : decode cX11_as 19 = .ok (.bipush (-103), 2) := by decide +kernel
theorem dX11_as_21 : decode cX11_as 21 = .ok (.ireturn, 1) := by decide +kernel
set_option maxHeartbeats 4000000 in
set_option maxRecDepth 100000 in
theorem c_X11_as (l : Launch) (D : va_G) (cy : ClassId) (x pg wr nw kp wk tr : Nat) (a : Int32) : wk_Ci l yX11_as cX11_as 2 (some .int) { frames := 0, cells := 0, slots := 0, locals := 0 } D cy [.ref x, .int a] [(x, .inr (11, [.ref pg, .ref wr, .ref nw, .ref kp, .ref wk, .ref tr, .null, .int 0, .int 0, .int 0]))] 0 0 (fun (r : Int32) (u : Unit) => r = if (0 ≤ a.toInt ∧ a.toInt ≤ 4) then (-103) else (-102)) (fun u => [(x, .inr (11, [.ref pg, .ref wr, .ref nw, .ref kp, .ref wk, .ref tr, .null, .int 0, .int 0, .int 0]))]) := by
  refine wk_mkCi (by decide) (Nat.le_of_ble_eq_true rfl) ?_
  intro p e s m below meth c A ls B hA hK hP hD hS hl
  obtain ⟨hx, hb, hr, hlocks, hml, hown, htb, hin⟩ := B
  have hl : lv_has ls 2 [(0, .ref x), (1, .int a)] := hl
  refine lv_iload_n hx hb dX11_as_0 rfl (lv_at hl 1 rfl) ?_
  refine lv_if_lt (tgt := 9) hx hb dX11_as_1 (by decide) (fun c_1 => ?_) (fun c_1 => ?_)
  · have k_1 : a.toInt < 0 := wk_lt c_1
    refine lv_bipush (v := (-102)) hx hb dX11_as_9 (by decide) ?_
    refine W.widen (k := 0) (n := 0) (by decide) (by decide) ?_
    exact wk_iret () hx hb hr hlocks (if_neg (by omega)).symm hK hP hD hS [0] rfl rfl dX11_as_11
  · have k_1 : ¬ a.toInt < 0 := wk_nlt c_1
    refine lv_iload_n hx hb dX11_as_4 rfl (lv_at hl 1 rfl) ?_
    refine lv_iconst (v := 4) hx hb dX11_as_5 (by decide) ?_
    refine lv_icmp_le (tgt := 12) hx hb dX11_as_6 (by decide) (fun c_2 => ?_) (fun c_2 => ?_)
    · have k_2 : a.toInt ≤ 4 := wk_le c_2
      refine lv_aload_n hx hb dX11_as_12 rfl (lv_at hl 0 rfl) ?_
      refine va_get (D := D) (ci := 11) (v := .null) (C := RX11) (T := TX11) (N := 10) hx hb htb inX11 hown hK hP 0 rfl rfl 6 (by decide) (htb _ tw_258) (fun _ h9 => h9) rfl dX11_as_13 ?_
      refine lv_ifnonnullN hx hb dX11_as_16 ?_
      refine lv_bipush (v := (-103)) hx hb dX11_as_19 (by decide) ?_
      refine W.widen (k := 0) (n := 0) (by decide) (by decide) ?_
      exact wk_iret () hx hb hr hlocks (if_pos (by omega)).symm hK hP hD hS [0] rfl rfl dX11_as_21
    · have k_2 : ¬ a.toInt ≤ 4 := wk_nle c_2
      refine lv_bipush (v := (-102)) hx hb dX11_as_9 (by decide) ?_
      refine W.widen (k := 0) (n := 0) (by decide) (by decide) ?_
      exact wk_iret () hx hb hr hlocks (if_neg (by omega)).symm hK hP hD hS [0] rfl rfl dX11_as_11
theorem dX11_key_0 : decode cX11_key 0 = .ok (.aload_n 0, 1) := by decide +kernel
theorem dX11_key_1 : decode cX11_key 1 = .ok (.iload_n 1, 1) := by decide +kernel
theorem dX11_key_2 : decode cX11_key 2 = .ok (.invokevirtual 102, 3) := by decide +kernel
theorem dX11_key_5 : decode cX11_key 5 = .ok (.ifCond .eq 6, 3) := by decide +kernel
theorem dX11_key_8 : decode cX11_key 8 = .ok (.bipush (-101), 2) := by decide +kernel
theorem dX11_key_10 : decode cX11_key 10 = .ok (.ireturn, 1) := by decide +kernel
set_option maxHeartbeats 4000000 in
set_option maxRecDepth 100000 in
theorem c_X11_key (l : Launch) (D : va_G) (cy : ClassId) (x pg wr nw kp wk tr nwf nws nwe nwfk nwfv nwfh nwft : Nat) (a b : Int32) : wk_Ci l yX11_key cX11_key 4 (some .int) { frames := 1, cells := 0, slots := 0, locals := 21 } D cy [.ref x, .int a, .int b] [(x, .inr (11, [.ref pg, .ref wr, .ref nw, .ref kp, .ref wk, .ref tr, .null, .int 0, .int 0, .int 0])), (nw, .inr (2, [.ref nwf, .ref nws, .ref nwe, .int 0, .int 0, .int 0])), (nwf, .inr (8, [.ref nwfk, .ref nwfv, .ref nwfh, .ref nwft, .int 0]))] 0 0 (fun (r : Int32) (u : Unit) => r = (-101)) (fun u => [(x, .inr (11, [.ref pg, .ref wr, .ref nw, .ref kp, .ref wk, .ref tr, .null, .int 0, .int 0, .int 0])), (nw, .inr (2, [.ref nwf, .ref nws, .ref nwe, .int 0, .int 0, .int 0])), (nwf, .inr (8, [.ref nwfk, .ref nwfv, .ref nwfh, .ref nwft, .int 0]))]) := by
  refine wk_mkCi (by decide) (Nat.le_of_ble_eq_true rfl) ?_
  intro p e s m below meth c A ls B hA hK hP hD hS hl
  obtain ⟨hx, hb, hr, hlocks, hml, hown, htb, hin⟩ := B
  have hl : lv_has ls 4 [(0, .ref x), (1, .int a), (2, .int b)] := hl
  refine lv_aload_n hx hb dX11_key_0 rfl (lv_at hl 0 rfl) ?_
  refine lv_iload_n hx hb dX11_key_1 rfl (lv_at hl 1 rfl) ?_
  refine wk_iV (As := [.int a]) (rest := []) (wc := [(x, .inr (11, [.ref pg, .ref wr, .ref nw, .ref kp, .ref wk, .ref tr, .null, .int 0, .int 0, .int 0])), (nw, .inr (2, [.ref nwf, .ref nws, .ref nwe, .int 0, .int 0, .int 0])), (nwf, .inr (8, [.ref nwfk, .ref nwfv, .ref nwfh, .ref nwft, .int 0]))]) (wr := []) (n := 1) (R := _) ⟨hx, hb, hml, hown, htb⟩ (c_X11_namesNoKey l D cy x pg wr nw kp wk tr nwf nws nwe nwfk nwfv nwfh nwft a ) tw_481 tw_478 tw_480 tw_7 tw_64 rfl rfl (by decide +kernel) ⟨Nat.le_of_ble_eq_true rfl, Nat.le_of_ble_eq_true rfl⟩ hK hP hD hS hA [0, 1, 2] [] rfl rfl rfl rfl (by decide) 0 (ci := 11) rfl rfl rfl hl.1 rfl (Nat.le_of_ble_eq_true rfl) dX11_key_2 ⟨Nat.le_of_ble_eq_true rfl, Nat.le_of_ble_eq_true rfl⟩ (fun r_1 u_2 H locs hw_3 hP hD hS => ?_)
  refine W.widen (k := 0) (n := 0) (by decide) (by decide) ?_
  have hw_3 : r_1 = 1 := hw_3
  subst hw_3
  have hP : va_P D classes [(x, .inr (11, [.ref pg, .ref wr, .ref nw, .ref kp, .ref wk, .ref tr, .null, .int 0, .int 0, .int 0])), (nw, .inr (2, [.ref nwf, .ref nws, .ref nwe, .int 0, .int 0, .int 0])), (nwf, .inr (8, [.ref nwfk, .ref nwfv, .ref nwfh, .ref nwft, .int 0]))] H := hP
  have hD : va_D A [(x, .inr (11, [.ref pg, .ref wr, .ref nw, .ref kp, .ref wk, .ref tr, .null, .int 0, .int 0, .int 0])), (nw, .inr (2, [.ref nwf, .ref nws, .ref nwe, .int 0, .int 0, .int 0])), (nwf, .inr (8, [.ref nwfk, .ref nwfv, .ref nwfh, .ref nwft, .int 0]))] := hD
  refine lv_if_eq (tgt := 11) hx hb dX11_key_5 (by decide) (fun c_4 => absurd c_4 (by decide)) (fun _ => ?_)
  refine lv_bipush (v := (-101)) hx hb dX11_key_8 (by decide) ?_
  refine W.widen (k := 0) (n := 0) (by decide) (by decide) ?_
  exact wk_iret () hx hb hr hlocks rfl hK hP hD hS [0, 1, 2] rfl rfl dX11_key_10
theorem dX11_lane_0 : decode cX11_lane 0 = .ok (.aload_n 0, 1) := by decide +kernel
theorem dX11_lane_1 : decode cX11_lane 1 = .ok (.getfield 71, 3) := by decide +kernel
theorem dX11_lane_4 : decode cX11_lane 4 = .ok (.ifnull 12, 3) := by decide +kernel
theorem dX11_lane_16 : decode cX11_lane 16 = .ok (.bipush (-101), 2) := by decide +kernel
theorem dX11_lane_18 : decode cX11_lane 18 = .ok (.ireturn, 1) := by decide +kernel
set_option maxHeartbeats 4000000 in
set_option maxRecDepth 100000 in
theorem c_X11_lane (l : Launch) (D : va_G) (cy : ClassId) (x pg wr nw kp wk tr : Nat) (a b : Int32) : wk_Ci l yX11_lane cX11_lane 3 (some .int) { frames := 0, cells := 0, slots := 0, locals := 0 } D cy [.ref x, .int a, .int b] [(x, .inr (11, [.ref pg, .ref wr, .ref nw, .ref kp, .ref wk, .ref tr, .null, .int 0, .int 0, .int 0]))] 0 0 (fun (r : Int32) (u : Unit) => r = (-101)) (fun u => [(x, .inr (11, [.ref pg, .ref wr, .ref nw, .ref kp, .ref wk, .ref tr, .null, .int 0, .int 0, .int 0]))]) := by
  refine wk_mkCi (by decide) (Nat.le_of_ble_eq_true rfl) ?_
  intro p e s m below meth c A ls B hA hK hP hD hS hl
  obtain ⟨hx, hb, hr, hlocks, hml, hown, htb, hin⟩ := B
  have hl : lv_has ls 3 [(0, .ref x), (1, .int a), (2, .int b)] := hl
  refine lv_aload_n hx hb dX11_lane_0 rfl (lv_at hl 0 rfl) ?_
  refine va_get (D := D) (ci := 11) (v := .null) (C := RX11) (T := TX11) (N := 10) hx hb htb inX11 hown hK hP 0 rfl rfl 6 (by decide) (htb _ tw_258) (fun _ h9 => h9) rfl dX11_lane_1 ?_
  refine lv_ifnullN (tgt := 16) hx hb dX11_lane_4 (by decide) ?_
  refine lv_bipush (v := (-101)) hx hb dX11_lane_16 (by decide) ?_
  refine W.widen (k := 0) (n := 0) (by decide) (by decide) ?_
  exact wk_iret () hx hb hr hlocks rfl hK hP hD hS [0] rfl rfl dX11_lane_18
theorem dX11_find_0 : decode cX11_find 0 = .ok (.iload_n 1, 1) := by decide +kernel
theorem dX11_find_1 : decode cX11_find 1 = .ok (.invokestatic 147, 3) := by decide +kernel
theorem dX11_find_4 : decode cX11_find 4 = .ok (.ifCond .ne 12, 3) := by decide +kernel
theorem dX11_find_7 : decode cX11_find 7 = .ok (.iload_n 2, 1) := by decide +kernel
theorem dX11_find_8 : decode cX11_find 8 = .ok (.ifCond .lt 8, 3) := by decide +kernel
theorem dX11_find_11 : decode cX11_find 11 = .ok (.iload_n 2, 1) := by decide +kernel
theorem dX11_find_12 : decode cX11_find 12 = .ok (.iconst 3, 1) := by decide +kernel
theorem dX11_find_13 : decode cX11_find 13 = .ok (.if_icmp .le 6, 3) := by decide +kernel
theorem dX11_find_16 : decode cX11_find 16 = .ok (.bipush (-102), 2) := by decide +kernel
theorem dX11_find_18 : decode cX11_find 18 = .ok (.ireturn, 1) := by decide +kernel
theorem dX11_find_19 : decode cX11_find 19 = .ok (.aload_n 0, 1) := by decide +kernel
theorem dX11_find_20 : decode cX11_find 20 = .ok (.getfield 71, 3) := by decide +kernel
theorem dX11_find_23 : decode cX11_find 23 = .ok (.ifnonnull 6, 3) := by decide +kernel
theorem dX11_find_26 : decode cX11_find 26 = .ok (.bipush (-103), 2) := by decide +kernel
theorem dX11_find_28 : decode cX11_find 28 = .ok (.ireturn, 1) := by decide +kernel
set_option maxHeartbeats 4000000 in
set_option maxRecDepth 100000 in
theorem c_X11_find (l : Launch) (D : va_G) (cy : ClassId) (x pg wr nw kp wk tr : Nat) (a b : Int32) : wk_Ci l yX11_find cX11_find 3 (some .int) { frames := 1, cells := 0, slots := 0, locals := 20 } D cy [.ref x, .int a, .int b] [(x, .inr (11, [.ref pg, .ref wr, .ref nw, .ref kp, .ref wk, .ref tr, .null, .int 0, .int 0, .int 0]))] 0 0 (fun (r : Int32) (u : Unit) => r = if (0 ≤ a.toInt ∧ a.toInt ≤ 99) ∧ (0 ≤ b.toInt ∧ b.toInt ≤ 3) then (-103) else (-102)) (fun u => [(x, .inr (11, [.ref pg, .ref wr, .ref nw, .ref kp, .ref wk, .ref tr, .null, .int 0, .int 0, .int 0]))]) := by
  refine wk_mkCi (by decide) (Nat.le_of_ble_eq_true rfl) ?_
  intro p e s m below meth c A ls B hA hK hP hD hS hl
  obtain ⟨hx, hb, hr, hlocks, hml, hown, htb, hin⟩ := B
  have hl : lv_has ls 3 [(0, .ref x), (1, .int a), (2, .int b)] := hl
  refine lv_iload_n hx hb dX11_find_0 rfl (lv_at hl 1 rfl) ?_
  refine wk_iS (As := [.int a]) (rest := []) (wc := []) (wr := [(x, .inr (11, [.ref pg, .ref wr, .ref nw, .ref kp, .ref wk, .ref tr, .null, .int 0, .int 0, .int 0]))]) (n := 1) (R := _) ⟨hx, hb, hml, hown, htb⟩ (c_X11_isNoKey l D cy  a ) tw_563 tw_561 tw_562 tw_64 rfl rfl (by decide +kernel) ⟨Nat.le_of_ble_eq_true rfl, Nat.le_of_ble_eq_true rfl⟩ hK hP hD hS hA [] [0] rfl rfl rfl rfl (by decide) rfl hl.1 rfl (Nat.le_of_ble_eq_true rfl) dX11_find_1 ⟨Nat.le_of_ble_eq_true rfl, Nat.le_of_ble_eq_true rfl⟩ (fun r_1 u_2 H locs hw_3 hP hD hS => ?_)
  refine W.widen (k := 0) (n := 0) (by decide) (by decide) ?_
  have hw_3 : r_1 = if (0 ≤ a.toInt ∧ a.toInt ≤ 99) then 0 else 1 := hw_3
  subst hw_3
  have hP : va_P D classes [(x, .inr (11, [.ref pg, .ref wr, .ref nw, .ref kp, .ref wk, .ref tr, .null, .int 0, .int 0, .int 0]))] H := hP
  have hD : va_D A [(x, .inr (11, [.ref pg, .ref wr, .ref nw, .ref kp, .ref wk, .ref tr, .null, .int 0, .int 0, .int 0]))] := hD
  refine lv_if_ne (tgt := 16) hx hb dX11_find_4 (by decide) (fun c_4 => ?_) (fun c_4 => ?_)
  · have k_4 : ¬ ((0 ≤ a.toInt ∧ a.toInt ≤ 99)) := wk_t1 c_4
    refine lv_bipush (v := (-102)) hx hb dX11_find_16 (by decide) ?_
    refine W.widen (k := 0) (n := 0) (by decide) (by decide) ?_
    exact wk_iret () hx hb hr hlocks (if_neg (by omega)).symm hK hP hD hS [0] rfl rfl dX11_find_18
  · have k_4 : (0 ≤ a.toInt ∧ a.toInt ≤ 99) := wk_t0 c_4
    refine lv_iload_n hx hb dX11_find_7 rfl (lv_at hl 2 rfl) ?_
    refine lv_if_lt (tgt := 16) hx hb dX11_find_8 (by decide) (fun c_5 => ?_) (fun c_5 => ?_)
    · have k_5 : b.toInt < 0 := wk_lt c_5
      refine lv_bipush (v := (-102)) hx hb dX11_find_16 (by decide) ?_
      refine W.widen (k := 0) (n := 0) (by decide) (by decide) ?_
      exact wk_iret () hx hb hr hlocks (if_neg (by omega)).symm hK hP hD hS [0] rfl rfl dX11_find_18
    · have k_5 : ¬ b.toInt < 0 := wk_nlt c_5
      refine lv_iload_n hx hb dX11_find_11 rfl (lv_at hl 2 rfl) ?_
      refine lv_iconst (v := 3) hx hb dX11_find_12 (by decide) ?_
      refine lv_icmp_le (tgt := 19) hx hb dX11_find_13 (by decide) (fun c_6 => ?_) (fun c_6 => ?_)
      · have k_6 : b.toInt ≤ 3 := wk_le c_6
        refine lv_aload_n hx hb dX11_find_19 rfl (lv_at hl 0 rfl) ?_
        refine va_get (D := D) (ci := 11) (v := .null) (C := RX11) (T := TX11) (N := 10) hx hb htb inX11 hown hK hP 0 rfl rfl 6 (by decide) (htb _ tw_258) (fun _ h9 => h9) rfl dX11_find_20 ?_
        refine lv_ifnonnullN hx hb dX11_find_23 ?_
        refine lv_bipush (v := (-103)) hx hb dX11_find_26 (by decide) ?_
        refine W.widen (k := 0) (n := 0) (by decide) (by decide) ?_
        exact wk_iret () hx hb hr hlocks (if_pos (by omega)).symm hK hP hD hS [0] rfl rfl dX11_find_28
      · have k_6 : ¬ b.toInt ≤ 3 := wk_nle c_6
        refine lv_bipush (v := (-102)) hx hb dX11_find_16 (by decide) ?_
        refine W.widen (k := 0) (n := 0) (by decide) (by decide) ?_
        exact wk_iret () hx hb hr hlocks (if_neg (by omega)).symm hK hP hD hS [0] rfl rfl dX11_find_18
theorem dX11_nth_0 : decode cX11_nth 0 = .ok (.aload_n 0, 1) := by decide +kernel
theorem dX11_nth_1 : decode cX11_nth 1 = .ok (.iload_n 1, 1) := by decide +kernel
theorem dX11_nth_2 : decode cX11_nth 2 = .ok (.invokevirtual 102, 3) := by decide +kernel
theorem dX11_nth_5 : decode cX11_nth 5 = .ok (.ifCond .eq 6, 3) := by decide +kernel
theorem dX11_nth_8 : decode cX11_nth 8 = .ok (.bipush (-101), 2) := by decide +kernel
theorem dX11_nth_10 : decode cX11_nth 10 = .ok (.ireturn, 1) := by decide +kernel
set_option maxHeartbeats 4000000 in
set_option maxRecDepth 100000 in
theorem c_X11_nth (l : Launch) (D : va_G) (cy : ClassId) (x pg wr nw kp wk tr nwf nws nwe nwfk nwfv nwfh nwft : Nat) (a b : Int32) : wk_Ci l yX11_nth cX11_nth 4 (some .int) { frames := 1, cells := 0, slots := 0, locals := 21 } D cy [.ref x, .int a, .int b] [(x, .inr (11, [.ref pg, .ref wr, .ref nw, .ref kp, .ref wk, .ref tr, .null, .int 0, .int 0, .int 0])), (nw, .inr (2, [.ref nwf, .ref nws, .ref nwe, .int 0, .int 0, .int 0])), (nwf, .inr (8, [.ref nwfk, .ref nwfv, .ref nwfh, .ref nwft, .int 0]))] 0 0 (fun (r : Int32) (u : Unit) => r = (-101)) (fun u => [(x, .inr (11, [.ref pg, .ref wr, .ref nw, .ref kp, .ref wk, .ref tr, .null, .int 0, .int 0, .int 0])), (nw, .inr (2, [.ref nwf, .ref nws, .ref nwe, .int 0, .int 0, .int 0])), (nwf, .inr (8, [.ref nwfk, .ref nwfv, .ref nwfh, .ref nwft, .int 0]))]) := by
  refine wk_mkCi (by decide) (Nat.le_of_ble_eq_true rfl) ?_
  intro p e s m below meth c A ls B hA hK hP hD hS hl
  obtain ⟨hx, hb, hr, hlocks, hml, hown, htb, hin⟩ := B
  have hl : lv_has ls 4 [(0, .ref x), (1, .int a), (2, .int b)] := hl
  refine lv_aload_n hx hb dX11_nth_0 rfl (lv_at hl 0 rfl) ?_
  refine lv_iload_n hx hb dX11_nth_1 rfl (lv_at hl 1 rfl) ?_
  refine wk_iV (As := [.int a]) (rest := []) (wc := [(x, .inr (11, [.ref pg, .ref wr, .ref nw, .ref kp, .ref wk, .ref tr, .null, .int 0, .int 0, .int 0])), (nw, .inr (2, [.ref nwf, .ref nws, .ref nwe, .int 0, .int 0, .int 0])), (nwf, .inr (8, [.ref nwfk, .ref nwfv, .ref nwfh, .ref nwft, .int 0]))]) (wr := []) (n := 1) (R := _) ⟨hx, hb, hml, hown, htb⟩ (c_X11_namesNoKey l D cy x pg wr nw kp wk tr nwf nws nwe nwfk nwfv nwfh nwft a ) tw_481 tw_478 tw_480 tw_7 tw_64 rfl rfl (by decide +kernel) ⟨Nat.le_of_ble_eq_true rfl, Nat.le_of_ble_eq_true rfl⟩ hK hP hD hS hA [0, 1, 2] [] rfl rfl rfl rfl (by decide) 0 (ci := 11) rfl rfl rfl hl.1 rfl (Nat.le_of_ble_eq_true rfl) dX11_nth_2 ⟨Nat.le_of_ble_eq_true rfl, Nat.le_of_ble_eq_true rfl⟩ (fun r_1 u_2 H locs hw_3 hP hD hS => ?_)
  refine W.widen (k := 0) (n := 0) (by decide) (by decide) ?_
  have hw_3 : r_1 = 1 := hw_3
  subst hw_3
  have hP : va_P D classes [(x, .inr (11, [.ref pg, .ref wr, .ref nw, .ref kp, .ref wk, .ref tr, .null, .int 0, .int 0, .int 0])), (nw, .inr (2, [.ref nwf, .ref nws, .ref nwe, .int 0, .int 0, .int 0])), (nwf, .inr (8, [.ref nwfk, .ref nwfv, .ref nwfh, .ref nwft, .int 0]))] H := hP
  have hD : va_D A [(x, .inr (11, [.ref pg, .ref wr, .ref nw, .ref kp, .ref wk, .ref tr, .null, .int 0, .int 0, .int 0])), (nw, .inr (2, [.ref nwf, .ref nws, .ref nwe, .int 0, .int 0, .int 0])), (nwf, .inr (8, [.ref nwfk, .ref nwfv, .ref nwfh, .ref nwft, .int 0]))] := hD
  refine lv_if_eq (tgt := 11) hx hb dX11_nth_5 (by decide) (fun c_4 => absurd c_4 (by decide)) (fun _ => ?_)
  refine lv_bipush (v := (-101)) hx hb dX11_nth_8 (by decide) ?_
  refine W.widen (k := 0) (n := 0) (by decide) (by decide) ?_
  exact wk_iret () hx hb hr hlocks rfl hK hP hD hS [0, 1, 2] rfl rfl dX11_nth_10
theorem dX11_sum_0 : decode cX11_sum 0 = .ok (.iload_n 1, 1) := by decide +kernel
theorem dX11_sum_1 : decode cX11_sum 1 = .ok (.invokestatic 147, 3) := by decide +kernel
theorem dX11_sum_4 : decode cX11_sum 4 = .ok (.ifCond .ne 15, 3) := by decide +kernel
theorem dX11_sum_7 : decode cX11_sum 7 = .ok (.iload_n 2, 1) := by decide +kernel
theorem dX11_sum_8 : decode cX11_sum 8 = .ok (.invokestatic 147, 3) := by decide +kernel
theorem dX11_sum_11 : decode cX11_sum 11 = .ok (.ifCond .ne 8, 3) := by decide +kernel
theorem dX11_sum_14 : decode cX11_sum 14 = .ok (.iload_n 1, 1) := by decide +kernel
theorem dX11_sum_15 : decode cX11_sum 15 = .ok (.iload_n 2, 1) := by decide +kernel
theorem dX11_sum_16 : decode cX11_sum 16 = .ok (.if_icmp .le 6, 3) := by decide +kernel
theorem dX11_sum_19 : decode cX11_sum 19 = .ok (.bipush (-102), 2) := by decide +kernel
theorem dX11_sum_21 : decode cX11_sum 21 = .ok (.ireturn, 1) := by decide +kernel
theorem dX11_sum_22 : decode cX11_sum 22 = .ok (.aload_n 0, 1) := by decide +kernel
theorem dX11_sum_23 : decode cX11_sum 23 = .ok (.getfield 71, 3) := by decide +kernel
theorem dX11_sum_26 : decode cX11_sum 26 = .ok (.ifnonnull 6, 3) := by decide +kernel
theorem dX11_sum_29 : decode cX11_sum 29 = .ok (.bipush (-103), 2) := by decide +kernel
theorem dX11_sum_31 : decode cX11_sum 31 = .ok (.ireturn, 1) := by decide +kernel
set_option maxHeartbeats 4000000 in
set_option maxRecDepth 100000 in
theorem c_X11_sum (l : Launch) (D : va_G) (cy : ClassId) (x pg wr nw kp wk tr : Nat) (a b : Int32) : wk_Ci l yX11_sum cX11_sum 3 (some .int) { frames := 1, cells := 0, slots := 0, locals := 20 } D cy [.ref x, .int a, .int b] [(x, .inr (11, [.ref pg, .ref wr, .ref nw, .ref kp, .ref wk, .ref tr, .null, .int 0, .int 0, .int 0]))] 0 0 (fun (r : Int32) (u : Unit) => r = if (0 ≤ a.toInt ∧ a.toInt ≤ 99) ∧ (0 ≤ b.toInt ∧ b.toInt ≤ 99) ∧ a.toInt ≤ b.toInt then (-103) else (-102)) (fun u => [(x, .inr (11, [.ref pg, .ref wr, .ref nw, .ref kp, .ref wk, .ref tr, .null, .int 0, .int 0, .int 0]))]) := by
  refine wk_mkCi (by decide) (Nat.le_of_ble_eq_true rfl) ?_
  intro p e s m below meth c A ls B hA hK hP hD hS hl
  obtain ⟨hx, hb, hr, hlocks, hml, hown, htb, hin⟩ := B
  have hl : lv_has ls 3 [(0, .ref x), (1, .int a), (2, .int b)] := hl
  refine lv_iload_n hx hb dX11_sum_0 rfl (lv_at hl 1 rfl) ?_
  refine wk_iS (As := [.int a]) (rest := []) (wc := []) (wr := [(x, .inr (11, [.ref pg, .ref wr, .ref nw, .ref kp, .ref wk, .ref tr, .null, .int 0, .int 0, .int 0]))]) (n := 1) (R := _) ⟨hx, hb, hml, hown, htb⟩ (c_X11_isNoKey l D cy  a ) tw_563 tw_561 tw_562 tw_64 rfl rfl (by decide +kernel) ⟨Nat.le_of_ble_eq_true rfl, Nat.le_of_ble_eq_true rfl⟩ hK hP hD hS hA [] [0] rfl rfl rfl rfl (by decide) rfl hl.1 rfl (Nat.le_of_ble_eq_true rfl) dX11_sum_1 ⟨Nat.le_of_ble_eq_true rfl, Nat.le_of_ble_eq_true rfl⟩ (fun r_1 u_2 H locs hw_3 hP hD hS => ?_)
  refine W.widen (k := 0) (n := 0) (by decide) (by decide) ?_
  have hw_3 : r_1 = if (0 ≤ a.toInt ∧ a.toInt ≤ 99) then 0 else 1 := hw_3
  subst hw_3
  have hP : va_P D classes [(x, .inr (11, [.ref pg, .ref wr, .ref nw, .ref kp, .ref wk, .ref tr, .null, .int 0, .int 0, .int 0]))] H := hP
  have hD : va_D A [(x, .inr (11, [.ref pg, .ref wr, .ref nw, .ref kp, .ref wk, .ref tr, .null, .int 0, .int 0, .int 0]))] := hD
  refine lv_if_ne (tgt := 19) hx hb dX11_sum_4 (by decide) (fun c_4 => ?_) (fun c_4 => ?_)
  · have k_4 : ¬ ((0 ≤ a.toInt ∧ a.toInt ≤ 99)) := wk_t1 c_4
    refine lv_bipush (v := (-102)) hx hb dX11_sum_19 (by decide) ?_
    refine W.widen (k := 0) (n := 0) (by decide) (by decide) ?_
    exact wk_iret () hx hb hr hlocks (if_neg (by omega)).symm hK hP hD hS [0] rfl rfl dX11_sum_21
  · have k_4 : (0 ≤ a.toInt ∧ a.toInt ≤ 99) := wk_t0 c_4
    refine lv_iload_n hx hb dX11_sum_7 rfl (lv_at hl 2 rfl) ?_
    refine wk_iS (As := [.int b]) (rest := []) (wc := []) (wr := [(x, .inr (11, [.ref pg, .ref wr, .ref nw, .ref kp, .ref wk, .ref tr, .null, .int 0, .int 0, .int 0]))]) (n := 1) (R := _) ⟨hx, hb, hml, hown, htb⟩ (c_X11_isNoKey l D cy  b ) tw_563 tw_561 tw_562 tw_64 rfl rfl (by decide +kernel) ⟨Nat.le_of_ble_eq_true rfl, Nat.le_of_ble_eq_true rfl⟩ hK hP hD hS hA [] [0] rfl rfl rfl rfl (by decide) rfl hl.1 rfl (Nat.le_of_ble_eq_true rfl) dX11_sum_8 ⟨Nat.le_of_ble_eq_true rfl, Nat.le_of_ble_eq_true rfl⟩ (fun r_5 u_6 H locs hw_7 hP hD hS => ?_)
    refine W.widen (k := 0) (n := 0) (by decide) (by decide) ?_
    have hw_7 : r_5 = if (0 ≤ b.toInt ∧ b.toInt ≤ 99) then 0 else 1 := hw_7
    subst hw_7
    have hP : va_P D classes [(x, .inr (11, [.ref pg, .ref wr, .ref nw, .ref kp, .ref wk, .ref tr, .null, .int 0, .int 0, .int 0]))] H := hP
    have hD : va_D A [(x, .inr (11, [.ref pg, .ref wr, .ref nw, .ref kp, .ref wk, .ref tr, .null, .int 0, .int 0, .int 0]))] := hD
    refine lv_if_ne (tgt := 19) hx hb dX11_sum_11 (by decide) (fun c_8 => ?_) (fun c_8 => ?_)
    · have k_8 : ¬ ((0 ≤ b.toInt ∧ b.toInt ≤ 99)) := wk_t1 c_8
      refine lv_bipush (v := (-102)) hx hb dX11_sum_19 (by decide) ?_
      refine W.widen (k := 0) (n := 0) (by decide) (by decide) ?_
      exact wk_iret () hx hb hr hlocks (if_neg (by omega)).symm hK hP hD hS [0] rfl rfl dX11_sum_21
    · have k_8 : (0 ≤ b.toInt ∧ b.toInt ≤ 99) := wk_t0 c_8
      refine lv_iload_n hx hb dX11_sum_14 rfl (lv_at hl 1 rfl) ?_
      refine lv_iload_n hx hb dX11_sum_15 rfl (lv_at hl 2 rfl) ?_
      refine lv_icmp_le (tgt := 22) hx hb dX11_sum_16 (by decide) (fun c_9 => ?_) (fun c_9 => ?_)
      · have k_9 : a.toInt ≤ b.toInt := wk_le c_9
        refine lv_aload_n hx hb dX11_sum_22 rfl (lv_at hl 0 rfl) ?_
        refine va_get (D := D) (ci := 11) (v := .null) (C := RX11) (T := TX11) (N := 10) hx hb htb inX11 hown hK hP 0 rfl rfl 6 (by decide) (htb _ tw_258) (fun _ h9 => h9) rfl dX11_sum_23 ?_
        refine lv_ifnonnullN hx hb dX11_sum_26 ?_
        refine lv_bipush (v := (-103)) hx hb dX11_sum_29 (by decide) ?_
        refine W.widen (k := 0) (n := 0) (by decide) (by decide) ?_
        exact wk_iret () hx hb hr hlocks (if_pos (by omega)).symm hK hP hD hS [0] rfl rfl dX11_sum_31
      · have k_9 : ¬ a.toInt ≤ b.toInt := wk_nle c_9
        refine lv_bipush (v := (-102)) hx hb dX11_sum_19 (by decide) ?_
        refine W.widen (k := 0) (n := 0) (by decide) (by decide) ?_
        exact wk_iret () hx hb hr hlocks (if_neg (by omega)).symm hK hP hD hS [0] rfl rfl dX11_sum_21
theorem dX11_finger_0 : decode cX11_finger 0 = .ok (.aload_n 0, 1) := by decide +kernel
theorem dX11_finger_1 : decode cX11_finger 1 = .ok (.iload_n 1, 1) := by decide +kernel
theorem dX11_finger_2 : decode cX11_finger 2 = .ok (.invokevirtual 102, 3) := by decide +kernel
theorem dX11_finger_5 : decode cX11_finger 5 = .ok (.ifCond .eq 6, 3) := by decide +kernel
theorem dX11_finger_8 : decode cX11_finger 8 = .ok (.bipush (-101), 2) := by decide +kernel
theorem dX11_finger_10 : decode cX11_finger 10 = .ok (.ireturn, 1) := by decide +kernel
set_option maxHeartbeats 4000000 in
set_option maxRecDepth 100000 in
theorem c_X11_finger (l : Launch) (D : va_G) (cy : ClassId) (x pg wr nw kp wk tr nwf nws nwe nwfk nwfv nwfh nwft : Nat) (a b d : Int32) : wk_Ci l yX11_finger cX11_finger 4 (some .int) { frames := 1, cells := 0, slots := 0, locals := 21 } D cy [.ref x, .int a, .int b, .int d] [(x, .inr (11, [.ref pg, .ref wr, .ref nw, .ref kp, .ref wk, .ref tr, .null, .int 0, .int 0, .int 0])), (nw, .inr (2, [.ref nwf, .ref nws, .ref nwe, .int 0, .int 0, .int 0])), (nwf, .inr (8, [.ref nwfk, .ref nwfv, .ref nwfh, .ref nwft, .int 0]))] 0 0 (fun (r : Int32) (u : Unit) => r = (-101)) (fun u => [(x, .inr (11, [.ref pg, .ref wr, .ref nw, .ref kp, .ref wk, .ref tr, .null, .int 0, .int 0, .int 0])), (nw, .inr (2, [.ref nwf, .ref nws, .ref nwe, .int 0, .int 0, .int 0])), (nwf, .inr (8, [.ref nwfk, .ref nwfv, .ref nwfh, .ref nwft, .int 0]))]) := by
  refine wk_mkCi (by decide) (Nat.le_of_ble_eq_true rfl) ?_
  intro p e s m below meth c A ls B hA hK hP hD hS hl
  obtain ⟨hx, hb, hr, hlocks, hml, hown, htb, hin⟩ := B
  have hl : lv_has ls 4 [(0, .ref x), (1, .int a), (2, .int b), (3, .int d)] := hl
  refine lv_aload_n hx hb dX11_finger_0 rfl (lv_at hl 0 rfl) ?_
  refine lv_iload_n hx hb dX11_finger_1 rfl (lv_at hl 1 rfl) ?_
  refine wk_iV (As := [.int a]) (rest := []) (wc := [(x, .inr (11, [.ref pg, .ref wr, .ref nw, .ref kp, .ref wk, .ref tr, .null, .int 0, .int 0, .int 0])), (nw, .inr (2, [.ref nwf, .ref nws, .ref nwe, .int 0, .int 0, .int 0])), (nwf, .inr (8, [.ref nwfk, .ref nwfv, .ref nwfh, .ref nwft, .int 0]))]) (wr := []) (n := 1) (R := _) ⟨hx, hb, hml, hown, htb⟩ (c_X11_namesNoKey l D cy x pg wr nw kp wk tr nwf nws nwe nwfk nwfv nwfh nwft a ) tw_481 tw_478 tw_480 tw_7 tw_64 rfl rfl (by decide +kernel) ⟨Nat.le_of_ble_eq_true rfl, Nat.le_of_ble_eq_true rfl⟩ hK hP hD hS hA [0, 1, 2] [] rfl rfl rfl rfl (by decide) 0 (ci := 11) rfl rfl rfl hl.1 rfl (Nat.le_of_ble_eq_true rfl) dX11_finger_2 ⟨Nat.le_of_ble_eq_true rfl, Nat.le_of_ble_eq_true rfl⟩ (fun r_1 u_2 H locs hw_3 hP hD hS => ?_)
  refine W.widen (k := 0) (n := 0) (by decide) (by decide) ?_
  have hw_3 : r_1 = 1 := hw_3
  subst hw_3
  have hP : va_P D classes [(x, .inr (11, [.ref pg, .ref wr, .ref nw, .ref kp, .ref wk, .ref tr, .null, .int 0, .int 0, .int 0])), (nw, .inr (2, [.ref nwf, .ref nws, .ref nwe, .int 0, .int 0, .int 0])), (nwf, .inr (8, [.ref nwfk, .ref nwfv, .ref nwfh, .ref nwft, .int 0]))] H := hP
  have hD : va_D A [(x, .inr (11, [.ref pg, .ref wr, .ref nw, .ref kp, .ref wk, .ref tr, .null, .int 0, .int 0, .int 0])), (nw, .inr (2, [.ref nwf, .ref nws, .ref nwe, .int 0, .int 0, .int 0])), (nwf, .inr (8, [.ref nwfk, .ref nwfv, .ref nwfh, .ref nwft, .int 0]))] := hD
  refine lv_if_eq (tgt := 11) hx hb dX11_finger_5 (by decide) (fun c_4 => absurd c_4 (by decide)) (fun _ => ?_)
  refine lv_bipush (v := (-101)) hx hb dX11_finger_8 (by decide) ?_
  refine W.widen (k := 0) (n := 0) (by decide) (by decide) ?_
  exact wk_iret () hx hb hr hlocks rfl hK hP hD hS [0, 1, 2] rfl rfl dX11_finger_10
theorem dX11_ask_0 : decode cX11_ask 0 = .ok (.iload_n 1, 1) := by decide +kernel
theorem dX11_ask_1 : decode cX11_ask 1 = .ok (.invokestatic 147, 3) := by decide +kernel
theorem dX11_ask_4 : decode cX11_ask 4 = .ok (.ifCond .eq 6, 3) := by decide +kernel
theorem dX11_ask_7 : decode cX11_ask 7 = .ok (.bipush (-102), 2) := by decide +kernel
theorem dX11_ask_9 : decode cX11_ask 9 = .ok (.ireturn, 1) := by decide +kernel
theorem dX11_ask_10 : decode cX11_ask 10 = .ok (.aload_n 0, 1) := by decide +kernel
theorem dX11_ask_11 : decode cX11_ask 11 = .ok (.getfield 71, 3) := by decide +kernel
theorem dX11_ask_14 : decode cX11_ask 14 = .ok (.ifnonnull 6, 3) := by decide +kernel
theorem dX11_ask_17 : decode cX11_ask 17 = .ok (.bipush (-103), 2) := by decide +kernel
theorem dX11_ask_19 : decode cX11_ask 19 = .ok (.ireturn, 1) := by decide +kernel
set_option maxHeartbeats 4000000 in
set_option maxRecDepth 100000 in
theorem c_X11_ask (l : Launch) (D : va_G) (cy : ClassId) (x pg wr nw kp wk tr : Nat) (a : Int32) : wk_Ci l yX11_ask cX11_ask 3 (some .int) { frames := 1, cells := 0, slots := 0, locals := 20 } D cy [.ref x, .int a] [(x, .inr (11, [.ref pg, .ref wr, .ref nw, .ref kp, .ref wk, .ref tr, .null, .int 0, .int 0, .int 0]))] 0 0 (fun (r : Int32) (u : Unit) => r = if (0 ≤ a.toInt ∧ a.toInt ≤ 99) then (-103) else (-102)) (fun u => [(x, .inr (11, [.ref pg, .ref wr, .ref nw, .ref kp, .ref wk, .ref tr, .null, .int 0, .int 0, .int 0]))]) := by
  refine wk_mkCi (by decide) (Nat.le_of_ble_eq_true rfl) ?_
  intro p e s m below meth c A ls B hA hK hP hD hS hl
  obtain ⟨hx, hb, hr, hlocks, hml, hown, htb, hin⟩ := B
  have hl : lv_has ls 3 [(0, .ref x), (1, .int a)] := hl
  refine lv_iload_n hx hb dX11_ask_0 rfl (lv_at hl 1 rfl) ?_
  refine wk_iS (As := [.int a]) (rest := []) (wc := []) (wr := [(x, .inr (11, [.ref pg, .ref wr, .ref nw, .ref kp, .ref wk, .ref tr, .null, .int 0, .int 0, .int 0]))]) (n := 1) (R := _) ⟨hx, hb, hml, hown, htb⟩ (c_X11_isNoKey l D cy  a ) tw_563 tw_561 tw_562 tw_64 rfl rfl (by decide +kernel) ⟨Nat.le_of_ble_eq_true rfl, Nat.le_of_ble_eq_true rfl⟩ hK hP hD hS hA [] [0] rfl rfl rfl rfl (by decide) rfl hl.1 rfl (Nat.le_of_ble_eq_true rfl) dX11_ask_1 ⟨Nat.le_of_ble_eq_true rfl, Nat.le_of_ble_eq_true rfl⟩ (fun r_1 u_2 H locs hw_3 hP hD hS => ?_)
  refine W.widen (k := 0) (n := 0) (by decide) (by decide) ?_
  have hw_3 : r_1 = if (0 ≤ a.toInt ∧ a.toInt ≤ 99) then 0 else 1 := hw_3
  subst hw_3
  have hP : va_P D classes [(x, .inr (11, [.ref pg, .ref wr, .ref nw, .ref kp, .ref wk, .ref tr, .null, .int 0, .int 0, .int 0]))] H := hP
  have hD : va_D A [(x, .inr (11, [.ref pg, .ref wr, .ref nw, .ref kp, .ref wk, .ref tr, .null, .int 0, .int 0, .int 0]))] := hD
  refine lv_if_eq (tgt := 10) hx hb dX11_ask_4 (by decide) (fun c_4 => ?_) (fun c_4 => ?_)
  · have k_4 : (0 ≤ a.toInt ∧ a.toInt ≤ 99) := wk_t0 c_4
    refine lv_aload_n hx hb dX11_ask_10 rfl (lv_at hl 0 rfl) ?_
    refine va_get (D := D) (ci := 11) (v := .null) (C := RX11) (T := TX11) (N := 10) hx hb htb inX11 hown hK hP 0 rfl rfl 6 (by decide) (htb _ tw_258) (fun _ h9 => h9) rfl dX11_ask_11 ?_
    refine lv_ifnonnullN hx hb dX11_ask_14 ?_
    refine lv_bipush (v := (-103)) hx hb dX11_ask_17 (by decide) ?_
    refine W.widen (k := 0) (n := 0) (by decide) (by decide) ?_
    exact wk_iret () hx hb hr hlocks (if_pos (by omega)).symm hK hP hD hS [0] rfl rfl dX11_ask_19
  · have k_4 : ¬ ((0 ≤ a.toInt ∧ a.toInt ≤ 99)) := wk_t1 c_4
    refine lv_bipush (v := (-102)) hx hb dX11_ask_7 (by decide) ?_
    refine W.widen (k := 0) (n := 0) (by decide) (by decide) ?_
    exact wk_iret () hx hb hr hlocks (if_neg (by omega)).symm hK hP hD hS [0] rfl rfl dX11_ask_9
theorem dX11_put_0 : decode cX11_put 0 = .ok (.iload_n 1, 1) := by decide +kernel
theorem dX11_put_1 : decode cX11_put 1 = .ok (.invokestatic 147, 3) := by decide +kernel
theorem dX11_put_4 : decode cX11_put 4 = .ok (.ifCond .ne 23, 3) := by decide +kernel
theorem dX11_put_7 : decode cX11_put 7 = .ok (.iload_n 2, 1) := by decide +kernel
theorem dX11_put_8 : decode cX11_put 8 = .ok (.ifCond .lt 19, 3) := by decide +kernel
theorem dX11_put_11 : decode cX11_put 11 = .ok (.iload_n 2, 1) := by decide +kernel
theorem dX11_put_12 : decode cX11_put 12 = .ok (.bipush 9, 2) := by decide +kernel
theorem dX11_put_14 : decode cX11_put 14 = .ok (.if_icmp .gt 13, 3) := by decide +kernel
theorem dX11_put_17 : decode cX11_put 17 = .ok (.iload_n 3, 1) := by decide +kernel
theorem dX11_put_18 : decode cX11_put 18 = .ok (.iconst 1, 1) := by decide +kernel
theorem dX11_put_19 : decode cX11_put 19 = .ok (.if_icmp .lt 8, 3) := by decide +kernel
theorem dX11_put_22 : decode cX11_put 22 = .ok (.iload_n 3, 1) := by decide +kernel
theorem dX11_put_23 : decode cX11_put 23 = .ok (.iconst 4, 1) := by decide +kernel
theorem dX11_put_24 : decode cX11_put 24 = .ok (.if_icmp .le 6, 3) := by decide +kernel
theorem dX11_put_27 : decode cX11_put 27 = .ok (.bipush (-102), 2) := by decide +kernel
theorem dX11_put_29 : decode cX11_put 29 = .ok (.ireturn, 1) := by decide +kernel
theorem dX11_put_30 : decode cX11_put 30 = .ok (.aload_n 0, 1) := by decide +kernel
theorem dX11_put_31 : decode cX11_put 31 = .ok (.getfield 71, 3) := by decide +kernel
theorem dX11_put_34 : decode cX11_put 34 = .ok (.ifnonnull 6, 3) := by decide +kernel
theorem dX11_put_37 : decode cX11_put 37 = .ok (.bipush (-103), 2) := by decide +kernel
theorem dX11_put_39 : decode cX11_put 39 = .ok (.ireturn, 1) := by decide +kernel
set_option maxHeartbeats 4000000 in
set_option maxRecDepth 100000 in
theorem c_X11_put (l : Launch) (D : va_G) (cy : ClassId) (x pg wr nw kp wk tr : Nat) (a b d : Int32) : wk_Ci l yX11_put cX11_put 7 (some .int) { frames := 1, cells := 0, slots := 0, locals := 20 } D cy [.ref x, .int a, .int b, .int d] [(x, .inr (11, [.ref pg, .ref wr, .ref nw, .ref kp, .ref wk, .ref tr, .null, .int 0, .int 0, .int 0]))] 0 0 (fun (r : Int32) (u : Unit) => r = if (0 ≤ a.toInt ∧ a.toInt ≤ 99) ∧ (0 ≤ b.toInt ∧ b.toInt ≤ 9) ∧ (1 ≤ d.toInt ∧ d.toInt ≤ 4) then (-103) else (-102)) (fun u => [(x, .inr (11, [.ref pg, .ref wr, .ref nw, .ref kp, .ref wk, .ref tr, .null, .int 0, .int 0, .int 0]))]) := by
  refine wk_mkCi (by decide) (Nat.le_of_ble_eq_true rfl) ?_
  intro p e s m below meth c A ls B hA hK hP hD hS hl
  obtain ⟨hx, hb, hr, hlocks, hml, hown, htb, hin⟩ := B
  have hl : lv_has ls 7 [(0, .ref x), (1, .int a), (2, .int b), (3, .int d)] := hl
  refine lv_iload_n hx hb dX11_put_0 rfl (lv_at hl 1 rfl) ?_
  refine wk_iS (As := [.int a]) (rest := []) (wc := []) (wr := [(x, .inr (11, [.ref pg, .ref wr, .ref nw, .ref kp, .ref wk, .ref tr, .null, .int 0, .int 0, .int 0]))]) (n := 1) (R := _) ⟨hx, hb, hml, hown, htb⟩ (c_X11_isNoKey l D cy  a ) tw_563 tw_561 tw_562 tw_64 rfl rfl (by decide +kernel) ⟨Nat.le_of_ble_eq_true rfl, Nat.le_of_ble_eq_true rfl⟩ hK hP hD hS hA [] [0] rfl rfl rfl rfl (by decide) rfl hl.1 rfl (Nat.le_of_ble_eq_true rfl) dX11_put_1 ⟨Nat.le_of_ble_eq_true rfl, Nat.le_of_ble_eq_true rfl⟩ (fun r_1 u_2 H locs hw_3 hP hD hS => ?_)
  refine W.widen (k := 0) (n := 0) (by decide) (by decide) ?_
  have hw_3 : r_1 = if (0 ≤ a.toInt ∧ a.toInt ≤ 99) then 0 else 1 := hw_3
  subst hw_3
  have hP : va_P D classes [(x, .inr (11, [.ref pg, .ref wr, .ref nw, .ref kp, .ref wk, .ref tr, .null, .int 0, .int 0, .int 0]))] H := hP
  have hD : va_D A [(x, .inr (11, [.ref pg, .ref wr, .ref nw, .ref kp, .ref wk, .ref tr, .null, .int 0, .int 0, .int 0]))] := hD
  refine lv_if_ne (tgt := 27) hx hb dX11_put_4 (by decide) (fun c_4 => ?_) (fun c_4 => ?_)
  · have k_4 : ¬ ((0 ≤ a.toInt ∧ a.toInt ≤ 99)) := wk_t1 c_4
    refine lv_bipush (v := (-102)) hx hb dX11_put_27 (by decide) ?_
    refine W.widen (k := 0) (n := 0) (by decide) (by decide) ?_
    exact wk_iret () hx hb hr hlocks (if_neg (by omega)).symm hK hP hD hS [0] rfl rfl dX11_put_29
  · have k_4 : (0 ≤ a.toInt ∧ a.toInt ≤ 99) := wk_t0 c_4
    refine lv_iload_n hx hb dX11_put_7 rfl (lv_at hl 2 rfl) ?_
    refine lv_if_lt (tgt := 27) hx hb dX11_put_8 (by decide) (fun c_5 => ?_) (fun c_5 => ?_)
    · have k_5 : b.toInt < 0 := wk_lt c_5
      refine lv_bipush (v := (-102)) hx hb dX11_put_27 (by decide) ?_
      refine W.widen (k := 0) (n := 0) (by decide) (by decide) ?_
      exact wk_iret () hx hb hr hlocks (if_neg (by omega)).symm hK hP hD hS [0] rfl rfl dX11_put_29
    · have k_5 : ¬ b.toInt < 0 := wk_nlt c_5
      refine lv_iload_n hx hb dX11_put_11 rfl (lv_at hl 2 rfl) ?_
      refine lv_bipush (v := 9) hx hb dX11_put_12 (by decide) ?_
      refine lv_icmp_gt (tgt := 27) hx hb dX11_put_14 (by decide) (fun c_6 => ?_) (fun c_6 => ?_)
      · have k_6 : 9 < b.toInt := wk_lt c_6
        refine lv_bipush (v := (-102)) hx hb dX11_put_27 (by decide) ?_
        refine W.widen (k := 0) (n := 0) (by decide) (by decide) ?_
        exact wk_iret () hx hb hr hlocks (if_neg (by omega)).symm hK hP hD hS [0] rfl rfl dX11_put_29
      · have k_6 : ¬ 9 < b.toInt := wk_nlt c_6
        refine lv_iload_n hx hb dX11_put_17 rfl (lv_at hl 3 rfl) ?_
        refine lv_iconst (v := 1) hx hb dX11_put_18 (by decide) ?_
        refine lv_icmp_lt (tgt := 27) hx hb dX11_put_19 (by decide) (fun c_7 => ?_) (fun c_7 => ?_)
        · have k_7 : d.toInt < 1 := wk_lt c_7
          refine lv_bipush (v := (-102)) hx hb dX11_put_27 (by decide) ?_
          refine W.widen (k := 0) (n := 0) (by decide) (by decide) ?_
          exact wk_iret () hx hb hr hlocks (if_neg (by omega)).symm hK hP hD hS [0] rfl rfl dX11_put_29
        · have k_7 : ¬ d.toInt < 1 := wk_nlt c_7
          refine lv_iload_n hx hb dX11_put_22 rfl (lv_at hl 3 rfl) ?_
          refine lv_iconst (v := 4) hx hb dX11_put_23 (by decide) ?_
          refine lv_icmp_le (tgt := 30) hx hb dX11_put_24 (by decide) (fun c_8 => ?_) (fun c_8 => ?_)
          · have k_8 : d.toInt ≤ 4 := wk_le c_8
            refine lv_aload_n hx hb dX11_put_30 rfl (lv_at hl 0 rfl) ?_
            refine va_get (D := D) (ci := 11) (v := .null) (C := RX11) (T := TX11) (N := 10) hx hb htb inX11 hown hK hP 0 rfl rfl 6 (by decide) (htb _ tw_258) (fun _ h9 => h9) rfl dX11_put_31 ?_
            refine lv_ifnonnullN hx hb dX11_put_34 ?_
            refine lv_bipush (v := (-103)) hx hb dX11_put_37 (by decide) ?_
            refine W.widen (k := 0) (n := 0) (by decide) (by decide) ?_
            exact wk_iret () hx hb hr hlocks (if_pos (by omega)).symm hK hP hD hS [0] rfl rfl dX11_put_39
          · have k_8 : ¬ d.toInt ≤ 4 := wk_nle c_8
            refine lv_bipush (v := (-102)) hx hb dX11_put_27 (by decide) ?_
            refine W.widen (k := 0) (n := 0) (by decide) (by decide) ?_
            exact wk_iret () hx hb hr hlocks (if_neg (by omega)).symm hK hP hD hS [0] rfl rfl dX11_put_29
theorem dX11_remove_0 : decode cX11_remove 0 = .ok (.iload_n 1, 1) := by decide +kernel
theorem dX11_remove_1 : decode cX11_remove 1 = .ok (.invokestatic 147, 3) := by decide +kernel
theorem dX11_remove_4 : decode cX11_remove 4 = .ok (.ifCond .eq 6, 3) := by decide +kernel
theorem dX11_remove_7 : decode cX11_remove 7 = .ok (.bipush (-102), 2) := by decide +kernel
theorem dX11_remove_9 : decode cX11_remove 9 = .ok (.ireturn, 1) := by decide +kernel
theorem dX11_remove_10 : decode cX11_remove 10 = .ok (.aload_n 0, 1) := by decide +kernel
theorem dX11_remove_11 : decode cX11_remove 11 = .ok (.getfield 22, 3) := by decide +kernel
theorem dX11_remove_14 : decode cX11_remove 14 = .ok (.getfield 77, 3) := by decide +kernel
theorem dX11_remove_17 : decode cX11_remove 17 = .ok (.astore_n 2, 1) := by decide +kernel
theorem dX11_remove_18 : decode cX11_remove 18 = .ok (.aload_n 2, 1) := by decide +kernel
theorem dX11_remove_19 : decode cX11_remove 19 = .ok (.iload_n 1, 1) := by decide +kernel
theorem dX11_remove_20 : decode cX11_remove 20 = .ok (.invokevirtual 185, 3) := by decide +kernel
theorem dX11_remove_23 : decode cX11_remove 23 = .ok (.istore_n 3, 1) := by decide +kernel
theorem dX11_remove_24 : decode cX11_remove 24 = .ok (.aload_n 0, 1) := by decide +kernel
theorem dX11_remove_25 : decode cX11_remove 25 = .ok (.getfield 71, 3) := by decide +kernel
theorem dX11_remove_28 : decode cX11_remove 28 = .ok (.ifnull 16, 3) := by decide +kernel
theorem dX11_remove_44 : decode cX11_remove 44 = .ok (.bipush (-103), 2) := by decide +kernel
theorem dX11_remove_46 : decode cX11_remove 46 = .ok (.ireturn, 1) := by decide +kernel
set_option maxHeartbeats 4000000 in
set_option maxRecDepth 100000 in
theorem c_X11_remove (l : Launch) (D : va_G) (cy : ClassId) (x pg wr nw kp wk tr nwf nws nwe nwfk nwfv nwfh nwft : Nat) (a : Int32) : wk_Ci l yX11_remove cX11_remove 5 (some .int) { frames := 2, cells := 0, slots := 0, locals := 44 } D cy [.ref x, .int a] [(x, .inr (11, [.ref pg, .ref wr, .ref nw, .ref kp, .ref wk, .ref tr, .null, .int 0, .int 0, .int 0])), (nw, .inr (2, [.ref nwf, .ref nws, .ref nwe, .int 0, .int 0, .int 0])), (nwf, .inr (8, [.ref nwfk, .ref nwfv, .ref nwfh, .ref nwft, .int 0]))] 0 0 (fun (r : Int32) (u : Unit) => r = if (0 ≤ a.toInt ∧ a.toInt ≤ 99) then (-103) else (-102)) (fun u => [(x, .inr (11, [.ref pg, .ref wr, .ref nw, .ref kp, .ref wk, .ref tr, .null, .int 0, .int 0, .int 0])), (nw, .inr (2, [.ref nwf, .ref nws, .ref nwe, .int 0, .int 0, .int 0])), (nwf, .inr (8, [.ref nwfk, .ref nwfv, .ref nwfh, .ref nwft, .int 0]))]) := by
  refine wk_mkCi (by decide) (Nat.le_of_ble_eq_true rfl) ?_
  intro p e s m below meth c A ls B hA hK hP hD hS hl
  obtain ⟨hx, hb, hr, hlocks, hml, hown, htb, hin⟩ := B
  have hl : lv_has ls 5 [(0, .ref x), (1, .int a)] := hl
  refine lv_iload_n hx hb dX11_remove_0 rfl (lv_at hl 1 rfl) ?_
  refine wk_iS (As := [.int a]) (rest := []) (wc := []) (wr := [(x, .inr (11, [.ref pg, .ref wr, .ref nw, .ref kp, .ref wk, .ref tr, .null, .int 0, .int 0, .int 0])), (nw, .inr (2, [.ref nwf, .ref nws, .ref nwe, .int 0, .int 0, .int 0])), (nwf, .inr (8, [.ref nwfk, .ref nwfv, .ref nwfh, .ref nwft, .int 0]))]) (n := 1) (R := _) ⟨hx, hb, hml, hown, htb⟩ (c_X11_isNoKey l D cy  a ) tw_563 tw_561 tw_562 tw_64 rfl rfl (by decide +kernel) ⟨Nat.le_of_ble_eq_true rfl, Nat.le_of_ble_eq_true rfl⟩ hK hP hD hS hA [] [0, 1, 2] rfl rfl rfl rfl (by decide) rfl hl.1 rfl (Nat.le_of_ble_eq_true rfl) dX11_remove_1 ⟨Nat.le_of_ble_eq_true rfl, Nat.le_of_ble_eq_true rfl⟩ (fun r_1 u_2 H locs hw_3 hP hD hS => ?_)
  refine W.widen (k := 0) (n := 0) (by decide) (by decide) ?_
  have hw_3 : r_1 = if (0 ≤ a.toInt ∧ a.toInt ≤ 99) then 0 else 1 := hw_3
  subst hw_3
  have hP : va_P D classes [(x, .inr (11, [.ref pg, .ref wr, .ref nw, .ref kp, .ref wk, .ref tr, .null, .int 0, .int 0, .int 0])), (nw, .inr (2, [.ref nwf, .ref nws, .ref nwe, .int 0, .int 0, .int 0])), (nwf, .inr (8, [.ref nwfk, .ref nwfv, .ref nwfh, .ref nwft, .int 0]))] H := hP
  have hD : va_D A [(x, .inr (11, [.ref pg, .ref wr, .ref nw, .ref kp, .ref wk, .ref tr, .null, .int 0, .int 0, .int 0])), (nw, .inr (2, [.ref nwf, .ref nws, .ref nwe, .int 0, .int 0, .int 0])), (nwf, .inr (8, [.ref nwfk, .ref nwfv, .ref nwfh, .ref nwft, .int 0]))] := hD
  refine lv_if_eq (tgt := 10) hx hb dX11_remove_4 (by decide) (fun c_4 => ?_) (fun c_4 => ?_)
  · have k_4 : (0 ≤ a.toInt ∧ a.toInt ≤ 99) := wk_t0 c_4
    refine lv_aload_n hx hb dX11_remove_10 rfl (lv_at hl 0 rfl) ?_
    refine va_get (D := D) (ci := 11) (v := .ref nw) (C := RX11) (T := TX11) (N := 10) hx hb htb inX11 hown hK hP 0 rfl rfl 2 (by decide) (htb _ tw_254) (fun _ h9 => h9) rfl dX11_remove_11 ?_
    refine va_get (D := D) (ci := 2) (v := .ref nwf) (C := RX2) (T := TX2) (N := 6) hx hb htb inX2 hown hK hP 1 rfl rfl 0 (by decide) (htb _ tw_171) (fun _ h9 => h9) rfl dX11_remove_14 ?_
    refine lv_astore_n (lv' := [(2, .ref nwf), (0, .ref x), (1, .int a)]) hx hb dX11_remove_17 rfl hl (by decide) rfl (fun ls hl => ?_)
    refine lv_aload_n hx hb dX11_remove_18 rfl (lv_at hl 0 rfl) ?_
    refine lv_iload_n hx hb dX11_remove_19 rfl (lv_at hl 2 rfl) ?_
    refine wk_iV (As := [.int a]) (rest := []) (wc := [(nwf, .inr (8, [.ref nwfk, .ref nwfv, .ref nwfh, .ref nwft, .int 0]))]) (wr := [(x, .inr (11, [.ref pg, .ref wr, .ref nw, .ref kp, .ref wk, .ref tr, .null, .int 0, .int 0, .int 0])), (nw, .inr (2, [.ref nwf, .ref nws, .ref nwe, .int 0, .int 0, .int 0]))]) (n := 1) (R := _) ⟨hx, hb, hml, hown, htb⟩ (c_X8_numberOf l D cy nwf nwfk nwfv nwfh nwft a ) tw_608 tw_605 tw_606 tw_607 tw_67 rfl rfl (by decide +kernel) ⟨Nat.le_of_ble_eq_true rfl, Nat.le_of_ble_eq_true rfl⟩ hK hP hD hS hA [2] [0, 1] rfl rfl rfl rfl (by decide) 0 (ci := 8) rfl rfl rfl hl.1 rfl (Nat.le_of_ble_eq_true rfl) dX11_remove_20 ⟨Nat.le_of_ble_eq_true rfl, Nat.le_of_ble_eq_true rfl⟩ (fun r_5 u_6 H locs hw_7 hP hD hS => ?_)
    refine W.widen (k := 0) (n := 0) (by decide) (by decide) ?_
    have hw_7 : r_5 = (-1) := hw_7
    subst hw_7
    have hP : va_P D classes [(x, .inr (11, [.ref pg, .ref wr, .ref nw, .ref kp, .ref wk, .ref tr, .null, .int 0, .int 0, .int 0])), (nw, .inr (2, [.ref nwf, .ref nws, .ref nwe, .int 0, .int 0, .int 0])), (nwf, .inr (8, [.ref nwfk, .ref nwfv, .ref nwfh, .ref nwft, .int 0]))] H := hP
    have hD : va_D A [(x, .inr (11, [.ref pg, .ref wr, .ref nw, .ref kp, .ref wk, .ref tr, .null, .int 0, .int 0, .int 0])), (nw, .inr (2, [.ref nwf, .ref nws, .ref nwe, .int 0, .int 0, .int 0])), (nwf, .inr (8, [.ref nwfk, .ref nwfv, .ref nwfh, .ref nwft, .int 0]))] := hD
    refine lv_istore_n (lv' := [(3, .int (-1)), (2, .ref nwf), (0, .ref x), (1, .int a)]) hx hb dX11_remove_23 rfl hl (by decide) rfl (fun ls hl => ?_)
    refine lv_aload_n hx hb dX11_remove_24 rfl (lv_at hl 2 rfl) ?_
    refine va_get (D := D) (ci := 11) (v := .null) (C := RX11) (T := TX11) (N := 10) hx hb htb inX11 hown hK hP 0 rfl rfl 6 (by decide) (htb _ tw_258) (fun _ h9 => h9) rfl dX11_remove_25 ?_
    refine lv_ifnullN (tgt := 44) hx hb dX11_remove_28 (by decide) ?_
    refine lv_bipush (v := (-103)) hx hb dX11_remove_44 (by decide) ?_
    refine W.widen (k := 0) (n := 0) (by decide) (by decide) ?_
    exact wk_iret () hx hb hr hlocks (if_pos (by omega)).symm hK hP hD hS [0, 1, 2] rfl rfl dX11_remove_46
  · have k_4 : ¬ ((0 ≤ a.toInt ∧ a.toInt ≤ 99)) := wk_t1 c_4
    refine lv_bipush (v := (-102)) hx hb dX11_remove_7 (by decide) ?_
    refine W.widen (k := 0) (n := 0) (by decide) (by decide) ?_
    exact wk_iret () hx hb hr hlocks (if_neg (by omega)).symm hK hP hD hS [0, 1, 2] rfl rfl dX11_remove_9
theorem dX11_split_0 : decode cX11_split 0 = .ok (.iload_n 1, 1) := by decide +kernel
theorem dX11_split_1 : decode cX11_split 1 = .ok (.invokestatic 147, 3) := by decide +kernel
theorem dX11_split_4 : decode cX11_split 4 = .ok (.ifCond .eq 6, 3) := by decide +kernel
theorem dX11_split_7 : decode cX11_split 7 = .ok (.bipush (-102), 2) := by decide +kernel
theorem dX11_split_9 : decode cX11_split 9 = .ok (.ireturn, 1) := by decide +kernel
theorem dX11_split_10 : decode cX11_split 10 = .ok (.aload_n 0, 1) := by decide +kernel
theorem dX11_split_11 : decode cX11_split 11 = .ok (.getfield 22, 3) := by decide +kernel
theorem dX11_split_14 : decode cX11_split 14 = .ok (.getfield 77, 3) := by decide +kernel
theorem dX11_split_17 : decode cX11_split 17 = .ok (.astore_n 2, 1) := by decide +kernel
theorem dX11_split_18 : decode cX11_split 18 = .ok (.aload_n 2, 1) := by decide +kernel
theorem dX11_split_19 : decode cX11_split 19 = .ok (.iload_n 1, 1) := by decide +kernel
theorem dX11_split_20 : decode cX11_split 20 = .ok (.invokevirtual 175, 3) := by decide +kernel
theorem dX11_split_23 : decode cX11_split 23 = .ok (.istore_n 3, 1) := by decide +kernel
theorem dX11_split_24 : decode cX11_split 24 = .ok (.aload_n 0, 1) := by decide +kernel
theorem dX11_split_25 : decode cX11_split 25 = .ok (.getfield 71, 3) := by decide +kernel
theorem dX11_split_28 : decode cX11_split 28 = .ok (.ifnull 29, 3) := by decide +kernel
theorem dX11_split_57 : decode cX11_split 57 = .ok (.bipush (-103), 2) := by decide +kernel
theorem dX11_split_59 : decode cX11_split 59 = .ok (.ireturn, 1) := by decide +kernel
set_option maxHeartbeats 4000000 in
set_option maxRecDepth 100000 in
theorem c_X11_split (l : Launch) (D : va_G) (cy : ClassId) (x pg wr nw kp wk tr nwf nws nwe nwfk nwfv nwfh nwft : Nat) (a : Int32) : wk_Ci l yX11_split cX11_split 4 (some .int) { frames := 1, cells := 0, slots := 0, locals := 22 } D cy [.ref x, .int a] [(x, .inr (11, [.ref pg, .ref wr, .ref nw, .ref kp, .ref wk, .ref tr, .null, .int 0, .int 0, .int 0])), (nw, .inr (2, [.ref nwf, .ref nws, .ref nwe, .int 0, .int 0, .int 0])), (nwf, .inr (8, [.ref nwfk, .ref nwfv, .ref nwfh, .ref nwft, .int 0]))] 0 0 (fun (r : Int32) (u : Unit) => r = if (0 ≤ a.toInt ∧ a.toInt ≤ 99) then (-103) else (-102)) (fun u => [(x, .inr (11, [.ref pg, .ref wr, .ref nw, .ref kp, .ref wk, .ref tr, .null, .int 0, .int 0, .int 0])), (nw, .inr (2, [.ref nwf, .ref nws, .ref nwe, .int 0, .int 0, .int 0])), (nwf, .inr (8, [.ref nwfk, .ref nwfv, .ref nwfh, .ref nwft, .int 0]))]) := by
  refine wk_mkCi (by decide) (Nat.le_of_ble_eq_true rfl) ?_
  intro p e s m below meth c A ls B hA hK hP hD hS hl
  obtain ⟨hx, hb, hr, hlocks, hml, hown, htb, hin⟩ := B
  have hl : lv_has ls 4 [(0, .ref x), (1, .int a)] := hl
  refine lv_iload_n hx hb dX11_split_0 rfl (lv_at hl 1 rfl) ?_
  refine wk_iS (As := [.int a]) (rest := []) (wc := []) (wr := [(x, .inr (11, [.ref pg, .ref wr, .ref nw, .ref kp, .ref wk, .ref tr, .null, .int 0, .int 0, .int 0])), (nw, .inr (2, [.ref nwf, .ref nws, .ref nwe, .int 0, .int 0, .int 0])), (nwf, .inr (8, [.ref nwfk, .ref nwfv, .ref nwfh, .ref nwft, .int 0]))]) (n := 1) (R := _) ⟨hx, hb, hml, hown, htb⟩ (c_X11_isNoKey l D cy  a ) tw_563 tw_561 tw_562 tw_64 rfl rfl (by decide +kernel) ⟨Nat.le_of_ble_eq_true rfl, Nat.le_of_ble_eq_true rfl⟩ hK hP hD hS hA [] [0, 1, 2] rfl rfl rfl rfl (by decide) rfl hl.1 rfl (Nat.le_of_ble_eq_true rfl) dX11_split_1 ⟨Nat.le_of_ble_eq_true rfl, Nat.le_of_ble_eq_true rfl⟩ (fun r_1 u_2 H locs hw_3 hP hD hS => ?_)
  refine W.widen (k := 0) (n := 0) (by decide) (by decide) ?_
  have hw_3 : r_1 = if (0 ≤ a.toInt ∧ a.toInt ≤ 99) then 0 else 1 := hw_3
  subst hw_3
  have hP : va_P D classes [(x, .inr (11, [.ref pg, .ref wr, .ref nw, .ref kp, .ref wk, .ref tr, .null, .int 0, .int 0, .int 0])), (nw, .inr (2, [.ref nwf, .ref nws, .ref nwe, .int 0, .int 0, .int 0])), (nwf, .inr (8, [.ref nwfk, .ref nwfv, .ref nwfh, .ref nwft, .int 0]))] H := hP
  have hD : va_D A [(x, .inr (11, [.ref pg, .ref wr, .ref nw, .ref kp, .ref wk, .ref tr, .null, .int 0, .int 0, .int 0])), (nw, .inr (2, [.ref nwf, .ref nws, .ref nwe, .int 0, .int 0, .int 0])), (nwf, .inr (8, [.ref nwfk, .ref nwfv, .ref nwfh, .ref nwft, .int 0]))] := hD
  refine lv_if_eq (tgt := 10) hx hb dX11_split_4 (by decide) (fun c_4 => ?_) (fun c_4 => ?_)
  · have k_4 : (0 ≤ a.toInt ∧ a.toInt ≤ 99) := wk_t0 c_4
    refine lv_aload_n hx hb dX11_split_10 rfl (lv_at hl 0 rfl) ?_
    refine va_get (D := D) (ci := 11) (v := .ref nw) (C := RX11) (T := TX11) (N := 10) hx hb htb inX11 hown hK hP 0 rfl rfl 2 (by decide) (htb _ tw_254) (fun _ h9 => h9) rfl dX11_split_11 ?_
    refine va_get (D := D) (ci := 2) (v := .ref nwf) (C := RX2) (T := TX2) (N := 6) hx hb htb inX2 hown hK hP 1 rfl rfl 0 (by decide) (htb _ tw_171) (fun _ h9 => h9) rfl dX11_split_14 ?_
    refine lv_astore_n (lv' := [(2, .ref nwf), (0, .ref x), (1, .int a)]) hx hb dX11_split_17 rfl hl (by decide) rfl (fun ls hl => ?_)
    refine lv_aload_n hx hb dX11_split_18 rfl (lv_at hl 0 rfl) ?_
    refine lv_iload_n hx hb dX11_split_19 rfl (lv_at hl 2 rfl) ?_
    refine wk_iV (As := [.int a]) (rest := []) (wc := [(nwf, .inr (8, [.ref nwfk, .ref nwfv, .ref nwfh, .ref nwft, .int 0]))]) (wr := [(x, .inr (11, [.ref pg, .ref wr, .ref nw, .ref kp, .ref wk, .ref tr, .null, .int 0, .int 0, .int 0])), (nw, .inr (2, [.ref nwf, .ref nws, .ref nwe, .int 0, .int 0, .int 0]))]) (n := 1) (R := _) ⟨hx, hb, hml, hown, htb⟩ (c_X8_firstNotLess l D cy nwf nwfk nwfv nwfh nwft a ) tw_595 tw_592 tw_593 tw_594 tw_67 rfl rfl (by decide +kernel) ⟨Nat.le_of_ble_eq_true rfl, Nat.le_of_ble_eq_true rfl⟩ hK hP hD hS hA [2] [0, 1] rfl rfl rfl rfl (by decide) 0 (ci := 8) rfl rfl rfl hl.1 rfl (Nat.le_of_ble_eq_true rfl) dX11_split_20 ⟨Nat.le_of_ble_eq_true rfl, Nat.le_of_ble_eq_true rfl⟩ (fun r_5 u_6 H locs hw_7 hP hD hS => ?_)
    refine W.widen (k := 0) (n := 0) (by decide) (by decide) ?_
    have hw_7 : r_5 = 0 := hw_7
    subst hw_7
    have hP : va_P D classes [(x, .inr (11, [.ref pg, .ref wr, .ref nw, .ref kp, .ref wk, .ref tr, .null, .int 0, .int 0, .int 0])), (nw, .inr (2, [.ref nwf, .ref nws, .ref nwe, .int 0, .int 0, .int 0])), (nwf, .inr (8, [.ref nwfk, .ref nwfv, .ref nwfh, .ref nwft, .int 0]))] H := hP
    have hD : va_D A [(x, .inr (11, [.ref pg, .ref wr, .ref nw, .ref kp, .ref wk, .ref tr, .null, .int 0, .int 0, .int 0])), (nw, .inr (2, [.ref nwf, .ref nws, .ref nwe, .int 0, .int 0, .int 0])), (nwf, .inr (8, [.ref nwfk, .ref nwfv, .ref nwfh, .ref nwft, .int 0]))] := hD
    refine lv_istore_n (lv' := [(3, .int 0), (2, .ref nwf), (0, .ref x), (1, .int a)]) hx hb dX11_split_23 rfl hl (by decide) rfl (fun ls hl => ?_)
    refine lv_aload_n hx hb dX11_split_24 rfl (lv_at hl 2 rfl) ?_
    refine va_get (D := D) (ci := 11) (v := .null) (C := RX11) (T := TX11) (N := 10) hx hb htb inX11 hown hK hP 0 rfl rfl 6 (by decide) (htb _ tw_258) (fun _ h9 => h9) rfl dX11_split_25 ?_
    refine lv_ifnullN (tgt := 57) hx hb dX11_split_28 (by decide) ?_
    refine lv_bipush (v := (-103)) hx hb dX11_split_57 (by decide) ?_
    refine W.widen (k := 0) (n := 0) (by decide) (by decide) ?_
    exact wk_iret () hx hb hr hlocks (if_pos (by omega)).symm hK hP hD hS [0, 1, 2] rfl rfl dX11_split_59
  · have k_4 : ¬ ((0 ≤ a.toInt ∧ a.toInt ≤ 99)) := wk_t1 c_4
    refine lv_bipush (v := (-102)) hx hb dX11_split_7 (by decide) ?_
    refine W.widen (k := 0) (n := 0) (by decide) (by decide) ?_
    exact wk_iret () hx hb hr hlocks (if_neg (by omega)).symm hK hP hD hS [0, 1, 2] rfl rfl dX11_split_9
