def fn_X6_add (tx_size : Int32) (txc_a : Nat → Int32) (a : Int32) : Int32 × Int32 × (Nat → Int32) := (if (44 : Int32) ≤ tx_size then (tx_size, tx_size, txc_a) else ((tx_size + 1), (tx_size + 1), (upd txc_a tx_size.toNatClampNeg a)))
theorem dX6_add_0 : decode cX6_add 0 = .ok (.aload_n 0, 1) := by decide +kernel
theorem dX6_add_1 : decode cX6_add 1 = .ok (.getfield 15, 3) := by decide +kernel
theorem dX6_add_4 : decode cX6_add 4 = .ok (.bipush 44, 2) := by decide +kernel
theorem dX6_add_6 : decode cX6_add 6 = .ok (.if_icmp .ge 23, 3) := by decide +kernel
theorem dX6_add_9 : decode cX6_add 9 = .ok (.aload_n 0, 1) := by decide +kernel
theorem dX6_add_10 : decode cX6_add 10 = .ok (.getfield 9, 3) := by decide +kernel
theorem dX6_add_13 : decode cX6_add 13 = .ok (.aload_n 0, 1) := by decide +kernel
theorem dX6_add_14 : decode cX6_add 14 = .ok (.getfield 15, 3) := by decide +kernel
theorem dX6_add_17 : decode cX6_add 17 = .ok (.iload_n 1, 1) := by decide +kernel
theorem dX6_add_18 : decode cX6_add 18 = .ok (.iastore, 1) := by decide +kernel
theorem dX6_add_19 : decode cX6_add 19 = .ok (.aload_n 0, 1) := by decide +kernel
theorem dX6_add_20 : decode cX6_add 20 = .ok (.dup, 1) := by decide +kernel
theorem dX6_add_21 : decode cX6_add 21 = .ok (.getfield 15, 3) := by decide +kernel
theorem dX6_add_24 : decode cX6_add 24 = .ok (.iconst 1, 1) := by decide +kernel
theorem dX6_add_25 : decode cX6_add 25 = .ok (.iadd, 1) := by decide +kernel
theorem dX6_add_26 : decode cX6_add 26 = .ok (.putfield 15, 3) := by decide +kernel
theorem dX6_add_29 : decode cX6_add 29 = .ok (.aload_n 0, 1) := by decide +kernel
theorem dX6_add_30 : decode cX6_add 30 = .ok (.getfield 15, 3) := by decide +kernel
theorem dX6_add_33 : decode cX6_add 33 = .ok (.ireturn, 1) := by decide +kernel
set_option maxHeartbeats 4000000 in
set_option maxRecDepth 100000 in
theorem c_X6_add (l : Launch) (D : va_G) (cy : ClassId) (tx txc : Nat) (tx_size : Int32) (txc_a : Nat → Int32) (a : Int32) (g_0 : 0 ≤ tx_size.toInt ∧ tx_size.toInt ≤ 44) : wk_Ci l yX6_add cX6_add 2 (some .int) { frames := 0, cells := 0, slots := 0, locals := 0 } D cy [.ref tx, .int a] [(tx, .inr (6, [.ref txc, .int tx_size])), (txc, .inl (cy, 44, .inl txc_a))] 0 0 (fun (r : Int32) (u : Int32 × (Nat → Int32)) => (r, u) = (fn_X6_add tx_size txc_a a) ∧ (0 ≤ u.1.toInt ∧ u.1.toInt ≤ 44)) (fun u => [(tx, .inr (6, [.ref txc, .int u.1])), (txc, .inl (cy, 44, .inl u.2))]) := by
  refine wk_mk2Ci (by decide) (Nat.le_of_ble_eq_true rfl) ?_
  intro p e s m args below meth c A ls Q B hA hK hP hD hS hl hret
  obtain ⟨hx, hb, hr, hlocks, hml, hown, htb, hin⟩ := B
  have hl : lv_has ls 2 [(0, .ref tx), (1, .int a)] := hl
  have hF : (fn_X6_add tx_size txc_a a) = (fn_X6_add tx_size txc_a a) := rfl
  conv at hF => rhs; unfold fn_X6_add
  refine lv_aload_n hx hb dX6_add_0 rfl (lv_at hl 0 rfl) ?_
  refine va_get (D := D) (ci := 6) (v := .int tx_size) (C := RX6) (T := TX6) (N := 2) hx hb htb inX6 hown hK hP 0 rfl rfl 1 (by decide) (htb _ tw_94) (fun _ h9 => h9) rfl dX6_add_1 ?_
  refine lv_bipush (v := 44) hx hb dX6_add_4 (by decide) ?_
  refine lv_icmp_ge (tgt := 29) hx hb dX6_add_6 (by decide) (fun c_1 => ?_) (fun c_1 => ?_)
  · have k_1 : 44 ≤ tx_size.toInt := wk_le c_1
    replace hF := hF.trans (if_pos c_1)
    refine lv_aload_n hx hb dX6_add_29 rfl (lv_at hl 0 rfl) ?_
    refine va_get (D := D) (ci := 6) (v := .int tx_size) (C := RX6) (T := TX6) (N := 2) hx hb htb inX6 hown hK hP 0 rfl rfl 1 (by decide) (htb _ tw_94) (fun _ h9 => h9) rfl dX6_add_30 ?_
    refine W.widen (k := 0) (n := 0) (by decide) (by decide) ?_
    exact hret tx_size (tx_size, txc_a) _ _ _ 33 (wk_sub9 (is := [0, 1]) hP rfl) (hD.sub [0, 1] rfl rfl) hS dX6_add_33 ⟨hF.symm, (show (0 ≤ tx_size.toInt ∧ tx_size.toInt ≤ 44) from by omega)⟩
  · have k_1 : ¬ 44 ≤ tx_size.toInt := wk_nle c_1
    replace hF := hF.trans (if_neg c_1)
    refine lv_aload_n hx hb dX6_add_9 rfl (lv_at hl 0 rfl) ?_
    refine va_get (D := D) (ci := 6) (v := .ref txc) (C := RX6) (T := TX6) (N := 2) hx hb htb inX6 hown hK hP 0 rfl rfl 0 (by decide) (htb _ tw_92) (fun _ h9 => h9) rfl dX6_add_10 ?_
    refine lv_aload_n hx hb dX6_add_13 rfl (lv_at hl 0 rfl) ?_
    refine va_get (D := D) (ci := 6) (v := .int tx_size) (C := RX6) (T := TX6) (N := 2) hx hb htb inX6 hown hK hP 0 rfl rfl 1 (by decide) (htb _ tw_94) (fun _ h9 => h9) rfl dX6_add_14 ?_
    refine lv_iload_n hx hb dX6_add_17 rfl (lv_at hl 1 rfl) ?_
    refine va_iast hx hb hK hP hD hS 1 0 rfl rfl (show vp_in tx_size 44 from vp_in_iff.mpr (show 0 ≤ tx_size.toInt ∧ tx_size.toInt < ((44 : Nat) : Int) from by omega)) dX6_add_18 (fun H locs hP hD hS => ?_)
    have hP : va_P D classes [(tx, .inr (6, [.ref txc, .int tx_size])), (txc, .inl (cy, 44, .inl (upd txc_a tx_size.toNatClampNeg a)))] H := hP
    have hD : va_D A [(tx, .inr (6, [.ref txc, .int tx_size])), (txc, .inl (cy, 44, .inl (upd txc_a tx_size.toNatClampNeg a)))] := hD
    refine lv_aload_n hx hb dX6_add_19 rfl (lv_at hl 0 rfl) ?_
    refine lv_dup hx hb dX6_add_20 rfl ?_
    refine va_get (D := D) (ci := 6) (v := .int tx_size) (C := RX6) (T := TX6) (N := 2) hx hb htb inX6 hown hK hP 0 rfl rfl 1 (by decide) (htb _ tw_94) (fun _ h9 => h9) rfl dX6_add_21 ?_
    refine lv_iconst (v := 1) hx hb dX6_add_24 (by decide) ?_
    refine lv_iadd hx hb dX6_add_25 ?_
    have k_2 : (tx_size + 1).toInt = tx_size.toInt + 1 := wk_add tx_size.toInt 1 rfl rfl (by omega) (by omega)
    refine va_put (D := D) (ci := 6) (v := .int (tx_size + 1)) (ty := .int) (C := RX6) (T := TX6) (N := 2) hx hb htb inX6 tyX6 tyX6_ok nmX6 hown hK hP hD hS 0 rfl rfl 1 (by decide) (htb _ tw_94) (fun _ h9 => h9) rfl (by decide +kernel) rfl rfl (Nat.le_of_ble_eq_true rfl) dX6_add_26 (fun H locs hP hD hS => ?_)
    have hP : va_P D classes [(tx, .inr (6, [.ref txc, .int (tx_size + 1)])), (txc, .inl (cy, 44, .inl (upd txc_a tx_size.toNatClampNeg a)))] H := hP
    have hD : va_D A [(tx, .inr (6, [.ref txc, .int (tx_size + 1)])), (txc, .inl (cy, 44, .inl (upd txc_a tx_size.toNatClampNeg a)))] := hD
    refine lv_aload_n hx hb dX6_add_29 rfl (lv_at hl 0 rfl) ?_
    refine va_get (D := D) (ci := 6) (v := .int (tx_size + 1)) (C := RX6) (T := TX6) (N := 2) hx hb htb inX6 hown hK hP 0 rfl rfl 1 (by decide) (htb _ tw_94) (fun _ h9 => h9) rfl dX6_add_30 ?_
    refine W.widen (k := 0) (n := 0) (by decide) (by decide) ?_
    exact hret (tx_size + 1) ((tx_size + 1), (upd txc_a tx_size.toNatClampNeg a)) _ _ _ 33 (wk_sub9 (is := [0, 1]) hP rfl) (hD.sub [0, 1] rfl rfl) hS dX6_add_33 ⟨hF.symm, (show (0 ≤ (tx_size + 1).toInt ∧ (tx_size + 1).toInt ≤ 44) from by omega)⟩
def fn_X6_clear (tx_size : Int32) : Int32 × Int32 := (tx_size, 0)
theorem dX6_clear_0 : decode cX6_clear 0 = .ok (.aload_n 0, 1) := by decide +kernel
theorem dX6_clear_1 : decode cX6_clear 1 = .ok (.getfield 15, 3) := by decide +kernel
theorem dX6_clear_4 : decode cX6_clear 4 = .ok (.istore_n 1, 1) := by decide +kernel
theorem dX6_clear_5 : decode cX6_clear 5 = .ok (.aload_n 0, 1) := by decide +kernel
theorem dX6_clear_6 : decode cX6_clear 6 = .ok (.iconst 0, 1) := by decide +kernel
theorem dX6_clear_7 : decode cX6_clear 7 = .ok (.putfield 15, 3) := by decide +kernel
theorem dX6_clear_10 : decode cX6_clear 10 = .ok (.iload_n 1, 1) := by decide +kernel
theorem dX6_clear_11 : decode cX6_clear 11 = .ok (.ireturn, 1) := by decide +kernel
set_option maxHeartbeats 4000000 in
set_option maxRecDepth 100000 in
theorem c_X6_clear (l : Launch) (D : va_G) (cy : ClassId) (tx txc : Nat) (tx_size : Int32)  (g_0 : 0 ≤ tx_size.toInt ∧ tx_size.toInt ≤ 44) : wk_Ci l yX6_clear cX6_clear 2 (some .int) { frames := 0, cells := 0, slots := 0, locals := 0 } D cy [.ref tx] [(tx, .inr (6, [.ref txc, .int tx_size]))] 0 0 (fun (r : Int32) (u : Int32) => (r, u) = (fn_X6_clear tx_size) ∧ (0 ≤ u.toInt ∧ u.toInt ≤ 44)) (fun u => [(tx, .inr (6, [.ref txc, .int u]))]) := by
  refine wk_mk2Ci (by decide) (Nat.le_of_ble_eq_true rfl) ?_
  intro p e s m args below meth c A ls Q B hA hK hP hD hS hl hret
  obtain ⟨hx, hb, hr, hlocks, hml, hown, htb, hin⟩ := B
  have hl : lv_has ls 2 [(0, .ref tx)] := hl
  have hF : (fn_X6_clear tx_size) = (fn_X6_clear tx_size) := rfl
  conv at hF => rhs; unfold fn_X6_clear
  refine lv_aload_n hx hb dX6_clear_0 rfl (lv_at hl 0 rfl) ?_
  refine va_get (D := D) (ci := 6) (v := .int tx_size) (C := RX6) (T := TX6) (N := 2) hx hb htb inX6 hown hK hP 0 rfl rfl 1 (by decide) (htb _ tw_94) (fun _ h9 => h9) rfl dX6_clear_1 ?_
  refine lv_istore_n (lv' := [(1, .int tx_size), (0, .ref tx)]) hx hb dX6_clear_4 rfl hl (by decide) rfl (fun ls hl => ?_)
  refine lv_aload_n hx hb dX6_clear_5 rfl (lv_at hl 1 rfl) ?_
  refine lv_iconst (v := 0) hx hb dX6_clear_6 (by decide) ?_
  refine va_put (D := D) (ci := 6) (v := .int 0) (ty := .int) (C := RX6) (T := TX6) (N := 2) hx hb htb inX6 tyX6 tyX6_ok nmX6 hown hK hP hD hS 0 rfl rfl 1 (by decide) (htb _ tw_94) (fun _ h9 => h9) rfl (by decide +kernel) rfl rfl (Nat.le_of_ble_eq_true rfl) dX6_clear_7 (fun H locs hP hD hS => ?_)
  have hP : va_P D classes [(tx, .inr (6, [.ref txc, .int 0]))] H := hP
  have hD : va_D A [(tx, .inr (6, [.ref txc, .int 0]))] := hD
  refine lv_iload_n hx hb dX6_clear_10 rfl (lv_at hl 0 rfl) ?_
  refine W.widen (k := 0) (n := 0) (by decide) (by decide) ?_
  exact hret tx_size 0 _ _ _ 11 (wk_sub9 (is := [0]) hP rfl) (hD.sub [0] rfl rfl) hS dX6_clear_11 ⟨hF.symm, (show (0 ≤ 0 ∧ 0 ≤ 44) from by omega)⟩
def fn_X6_digitAt (tx_size : Int32) (txc_a : Nat → Int32) (a : Int32) : Int32 := (if a < 0 then 0 else (if tx_size ≤ a then 0 else ((txc_a a.toNatClampNeg) - 48)))
theorem dX6_digitAt_0 : decode cX6_digitAt 0 = .ok (.iload_n 1, 1) := by decide +kernel
theorem dX6_digitAt_1 : decode cX6_digitAt 1 = .ok (.ifCond .lt 23, 3) := by decide +kernel
theorem dX6_digitAt_4 : decode cX6_digitAt 4 = .ok (.iload_n 1, 1) := by decide +kernel
theorem dX6_digitAt_5 : decode cX6_digitAt 5 = .ok (.aload_n 0, 1) := by decide +kernel
theorem dX6_digitAt_6 : decode cX6_digitAt 6 = .ok (.getfield 15, 3) := by decide +kernel
theorem dX6_digitAt_9 : decode cX6_digitAt 9 = .ok (.if_icmp .ge 15, 3) := by decide +kernel
theorem dX6_digitAt_12 : decode cX6_digitAt 12 = .ok (.aload_n 0, 1) := by decide +kernel
theorem dX6_digitAt_13 : decode cX6_digitAt 13 = .ok (.getfield 9, 3) := by decide +kernel
theorem dX6_digitAt_16 : decode cX6_digitAt 16 = .ok (.iload_n 1, 1) := by decide +kernel
theorem dX6_digitAt_17 : decode cX6_digitAt 17 = .ok (.iaload, 1) := by decide +kernel
theorem dX6_digitAt_18 : decode cX6_digitAt 18 = .ok (.bipush 48, 2) := by decide +kernel
theorem dX6_digitAt_20 : decode cX6_digitAt 20 = .ok (.isub, 1) := by decide +kernel
theorem dX6_digitAt_21 : decode cX6_digitAt 21 = .ok (.goto 4, 3) := by decide +kernel
theorem dX6_digitAt_24 : decode cX6_digitAt 24 = .ok (.iconst 0, 1) := by decide +kernel
theorem dX6_digitAt_25 : decode cX6_digitAt 25 = .ok (.ireturn, 1) := by decide +kernel
set_option maxHeartbeats 4000000 in
set_option maxRecDepth 100000 in
theorem c_X6_digitAt (l : Launch) (D : va_G) (cy : ClassId) (tx txc : Nat) (tx_size : Int32) (txc_a : Nat → Int32) (a : Int32) (g_0 : 0 ≤ tx_size.toInt ∧ tx_size.toInt ≤ 44) : wk_Ci l yX6_digitAt cX6_digitAt 2 (some .int) { frames := 0, cells := 0, slots := 0, locals := 0 } D cy [.ref tx, .int a] [(tx, .inr (6, [.ref txc, .int tx_size])), (txc, .inl (cy, 44, .inl txc_a))] 0 0 (fun (r : Int32) (u : Unit) => r = (fn_X6_digitAt tx_size txc_a a)) (fun u => [(tx, .inr (6, [.ref txc, .int tx_size])), (txc, .inl (cy, 44, .inl txc_a))]) := by
  refine wk_mk2Ci (by decide) (Nat.le_of_ble_eq_true rfl) ?_
  intro p e s m args below meth c A ls Q B hA hK hP hD hS hl hret
  obtain ⟨hx, hb, hr, hlocks, hml, hown, htb, hin⟩ := B
  have hl : lv_has ls 2 [(0, .ref tx), (1, .int a)] := hl
  have hF : (fn_X6_digitAt tx_size txc_a a) = (fn_X6_digitAt tx_size txc_a a) := rfl
  conv at hF => rhs; unfold fn_X6_digitAt
  refine lv_iload_n hx hb dX6_digitAt_0 rfl (lv_at hl 1 rfl) ?_
  refine lv_if_lt (tgt := 24) hx hb dX6_digitAt_1 (by decide) (fun c_1 => ?_) (fun c_1 => ?_)
  · have k_1 : a.toInt < 0 := wk_lt c_1
    replace hF := hF.trans (if_pos c_1)
    refine lv_iconst (v := 0) hx hb dX6_digitAt_24 (by decide) ?_
    refine W.widen (k := 0) (n := 0) (by decide) (by decide) ?_
    exact hret 0 () _ _ _ 25 (wk_sub9 (is := [0, 1]) hP rfl) (hD.sub [0, 1] rfl rfl) hS dX6_digitAt_25 hF.symm
  · have k_1 : ¬ a.toInt < 0 := wk_nlt c_1
    replace hF := hF.trans (if_neg c_1)
    refine lv_iload_n hx hb dX6_digitAt_4 rfl (lv_at hl 1 rfl) ?_
    refine lv_aload_n hx hb dX6_digitAt_5 rfl (lv_at hl 0 rfl) ?_
    refine va_get (D := D) (ci := 6) (v := .int tx_size) (C := RX6) (T := TX6) (N := 2) hx hb htb inX6 hown hK hP 0 rfl rfl 1 (by decide) (htb _ tw_94) (fun _ h9 => h9) rfl dX6_digitAt_6 ?_
    refine lv_icmp_ge (tgt := 24) hx hb dX6_digitAt_9 (by decide) (fun c_2 => ?_) (fun c_2 => ?_)
    · have k_2 : tx_size.toInt ≤ a.toInt := wk_le c_2
      replace hF := hF.trans (if_pos c_2)
      refine lv_iconst (v := 0) hx hb dX6_digitAt_24 (by decide) ?_
      refine W.widen (k := 0) (n := 0) (by decide) (by decide) ?_
      exact hret 0 () _ _ _ 25 (wk_sub9 (is := [0, 1]) hP rfl) (hD.sub [0, 1] rfl rfl) hS dX6_digitAt_25 hF.symm
    · have k_2 : ¬ tx_size.toInt ≤ a.toInt := wk_nle c_2
      replace hF := hF.trans (if_neg c_2)
      refine lv_aload_n hx hb dX6_digitAt_12 rfl (lv_at hl 0 rfl) ?_
      refine va_get (D := D) (ci := 6) (v := .ref txc) (C := RX6) (T := TX6) (N := 2) hx hb htb inX6 hown hK hP 0 rfl rfl 0 (by decide) (htb _ tw_92) (fun _ h9 => h9) rfl dX6_digitAt_13 ?_
      refine lv_iload_n hx hb dX6_digitAt_16 rfl (lv_at hl 1 rfl) ?_
      refine va_iald hx hb hK hP 1 0 rfl rfl (show vp_in a 44 from vp_in_iff.mpr (show 0 ≤ a.toInt ∧ a.toInt < ((44 : Nat) : Int) from by omega)) dX6_digitAt_17 ?_
      refine lv_bipush (v := 48) hx hb dX6_digitAt_18 (by decide) ?_
      refine lv_isub hx hb dX6_digitAt_20 ?_
      refine lv_goto (tgt := 25) hx hb dX6_digitAt_21 (by decide) ?_
      refine W.widen (k := 0) (n := 0) (by decide) (by decide) ?_
      exact hret ((txc_a a.toNatClampNeg) - 48) () _ _ _ 25 (wk_sub9 (is := [0, 1]) hP rfl) (hD.sub [0, 1] rfl rfl) hS dX6_digitAt_25 hF.symm
def fn_X6_keyAt (tx_size : Int32) (txc_a : Nat → Int32) (a : Int32) : Int32 := ((10 * (fn_X6_digitAt tx_size txc_a a)) + (fn_X6_digitAt tx_size txc_a (a + 1)))
theorem dX6_keyAt_0 : decode cX6_keyAt 0 = .ok (.bipush 10, 2) := by decide +kernel
theorem dX6_keyAt_2 : decode cX6_keyAt 2 = .ok (.aload_n 0, 1) := by decide +kernel
theorem dX6_keyAt_3 : decode cX6_keyAt 3 = .ok (.iload_n 1, 1) := by decide +kernel
theorem dX6_keyAt_4 : decode cX6_keyAt 4 = .ok (.invokevirtual 62, 3) := by decide +kernel
theorem dX6_keyAt_7 : decode cX6_keyAt 7 = .ok (.imul, 1) := by decide +kernel
theorem dX6_keyAt_8 : decode cX6_keyAt 8 = .ok (.aload_n 0, 1) := by decide +kernel
theorem dX6_keyAt_9 : decode cX6_keyAt 9 = .ok (.iload_n 1, 1) := by decide +kernel
theorem dX6_keyAt_10 : decode cX6_keyAt 10 = .ok (.iconst 1, 1) := by decide +kernel
theorem dX6_keyAt_11 : decode cX6_keyAt 11 = .ok (.iadd, 1) := by decide +kernel
theorem dX6_keyAt_12 : decode cX6_keyAt 12 = .ok (.invokevirtual 62, 3) := by decide +kernel
theorem dX6_keyAt_15 : decode cX6_keyAt 15 = .ok (.iadd, 1) := by decide +kernel
theorem dX6_keyAt_16 : decode cX6_keyAt 16 = .ok (.ireturn, 1) := by decide +kernel
set_option maxHeartbeats 4000000 in
set_option maxRecDepth 100000 in
theorem c_X6_keyAt (l : Launch) (D : va_G) (cy : ClassId) (tx txc : Nat) (tx_size : Int32) (txc_a : Nat → Int32) (a : Int32) (g_0 : 0 ≤ tx_size.toInt ∧ tx_size.toInt ≤ 44) : wk_Ci l yX6_keyAt cX6_keyAt 2 (some .int) { frames := 1, cells := 0, slots := 0, locals := 21 } D cy [.ref tx, .int a] [(tx, .inr (6, [.ref txc, .int tx_size])), (txc, .inl (cy, 44, .inl txc_a))] 0 0 (fun (r : Int32) (u : Unit) => r = (fn_X6_keyAt tx_size txc_a a)) (fun u => [(tx, .inr (6, [.ref txc, .int tx_size])), (txc, .inl (cy, 44, .inl txc_a))]) := by
  refine wk_mk2Ci (by decide) (Nat.le_of_ble_eq_true rfl) ?_
  intro p e s m args below meth c A ls Q B hA hK hP hD hS hl hret
  obtain ⟨hx, hb, hr, hlocks, hml, hown, htb, hin⟩ := B
  have hl : lv_has ls 2 [(0, .ref tx), (1, .int a)] := hl
  have hF : (fn_X6_keyAt tx_size txc_a a) = (fn_X6_keyAt tx_size txc_a a) := rfl
  conv at hF => rhs; unfold fn_X6_keyAt
  refine lv_bipush (v := 10) hx hb dX6_keyAt_0 (by decide) ?_
  refine lv_aload_n hx hb dX6_keyAt_2 rfl (lv_at hl 0 rfl) ?_
  refine lv_iload_n hx hb dX6_keyAt_3 rfl (lv_at hl 1 rfl) ?_
  refine wk_iV (As := [.int a]) (rest := [.int 10]) (wc := [(tx, .inr (6, [.ref txc, .int tx_size])), (txc, .inl (cy, 44, .inl txc_a))]) (wr := []) (n := 1) ⟨hx, hb, hml, hown, htb⟩ (c_X6_digitAt l D cy tx txc tx_size txc_a a (show 0 ≤ tx_size.toInt ∧ tx_size.toInt ≤ 44 from by omega)) tw_322 tw_319 tw_321 tw_3 tw_65 rfl rfl (by decide +kernel) ⟨Nat.le_of_ble_eq_true rfl, Nat.le_of_ble_eq_true rfl⟩ hK hP hD hS hA [0, 1] [] rfl rfl rfl rfl (by decide) 0 (ci := 6) rfl rfl rfl hl.1 rfl (Nat.le_of_ble_eq_true rfl) dX6_keyAt_4 ⟨Nat.le_of_ble_eq_true rfl, Nat.le_of_ble_eq_true rfl⟩ (fun r_1 u_2 H locs hw_3 hP hD hS => ?_)
  refine W.widen (k := 0) (n := 0) (by decide) (by decide) ?_
  have hw_3 : r_1 = (fn_X6_digitAt tx_size txc_a a) := hw_3
  subst hw_3
  have hP : va_P D classes [(tx, .inr (6, [.ref txc, .int tx_size])), (txc, .inl (cy, 44, .inl txc_a))] H := hP
  have hD : va_D A [(tx, .inr (6, [.ref txc, .int tx_size])), (txc, .inl (cy, 44, .inl txc_a))] := hD
  refine lv_imul hx hb dX6_keyAt_7 ?_
  refine lv_aload_n hx hb dX6_keyAt_8 rfl (lv_at hl 0 rfl) ?_
  refine lv_iload_n hx hb dX6_keyAt_9 rfl (lv_at hl 1 rfl) ?_
  refine lv_iconst (v := 1) hx hb dX6_keyAt_10 (by decide) ?_
  refine lv_iadd hx hb dX6_keyAt_11 ?_
  refine wk_iV (As := [.int (a + 1)]) (rest := [.int (10 * (fn_X6_digitAt tx_size txc_a a))]) (wc := [(tx, .inr (6, [.ref txc, .int tx_size])), (txc, .inl (cy, 44, .inl txc_a))]) (wr := []) (n := 1) ⟨hx, hb, hml, hown, htb⟩ (c_X6_digitAt l D cy tx txc tx_size txc_a (a + 1) (show 0 ≤ tx_size.toInt ∧ tx_size.toInt ≤ 44 from by omega)) tw_322 tw_319 tw_321 tw_3 tw_65 rfl rfl (by decide +kernel) ⟨Nat.le_of_ble_eq_true rfl, Nat.le_of_ble_eq_true rfl⟩ hK hP hD hS hA [0, 1] [] rfl rfl rfl rfl (by decide) 0 (ci := 6) rfl rfl rfl hl.1 rfl (Nat.le_of_ble_eq_true rfl) dX6_keyAt_12 ⟨Nat.le_of_ble_eq_true rfl, Nat.le_of_ble_eq_true rfl⟩ (fun r_4 u_5 H locs hw_6 hP hD hS => ?_)
  refine W.widen (k := 0) (n := 0) (by decide) (by decide) ?_
  have hw_6 : r_4 = (fn_X6_digitAt tx_size txc_a (a + 1)) := hw_6
  subst hw_6
  have hP : va_P D classes [(tx, .inr (6, [.ref txc, .int tx_size])), (txc, .inl (cy, 44, .inl txc_a))] H := hP
  have hD : va_D A [(tx, .inr (6, [.ref txc, .int tx_size])), (txc, .inl (cy, 44, .inl txc_a))] := hD
  refine lv_iadd hx hb dX6_keyAt_15 ?_
  refine W.widen (k := 0) (n := 0) (by decide) (by decide) ?_
  exact hret ((10 * (fn_X6_digitAt tx_size txc_a a)) + (fn_X6_digitAt tx_size txc_a (a + 1))) () _ _ _ 16 (wk_sub9 (is := [0, 1]) hP rfl) (hD.sub [0, 1] rfl rfl) hS dX6_keyAt_16 hF.symm
def fn_X6_signsOfKey (tx_size : Int32) (txc_a : Nat → Int32) : Int32 := (if tx_size ≤ 0 then (-1) else (if (txc_a (0 : Int32).toNatClampNeg) = 100 then 3 else (if (txc_a (0 : Int32).toNatClampNeg) = 101 then 3 else (if (txc_a (0 : Int32).toNatClampNeg) = 104 then 3 else (if (txc_a (0 : Int32).toNatClampNeg) = 115 then 3 else (if (txc_a (0 : Int32).toNatClampNeg) = 116 then 4 else (-1)))))))
theorem dX6_signsOfKey_0 : decode cX6_signsOfKey 0 = .ok (.aload_n 0, 1) := by decide +kernel
theorem dX6_signsOfKey_1 : decode cX6_signsOfKey 1 = .ok (.getfield 15, 3) := by decide +kernel
theorem dX6_signsOfKey_4 : decode cX6_signsOfKey 4 = .ok (.ifCond .le 12, 3) := by decide +kernel
theorem dX6_signsOfKey_7 : decode cX6_signsOfKey 7 = .ok (.aload_n 0, 1) := by decide +kernel
theorem dX6_signsOfKey_8 : decode cX6_signsOfKey 8 = .ok (.getfield 9, 3) := by decide +kernel
theorem dX6_signsOfKey_11 : decode cX6_signsOfKey 11 = .ok (.iconst 0, 1) := by decide +kernel
theorem dX6_signsOfKey_12 : decode cX6_signsOfKey 12 = .ok (.iaload, 1) := by decide +kernel
theorem dX6_signsOfKey_13 : decode cX6_signsOfKey 13 = .ok (.goto 4, 3) := by decide +kernel
theorem dX6_signsOfKey_16 : decode cX6_signsOfKey 16 = .ok (.iconst 0, 1) := by decide +kernel
theorem dX6_signsOfKey_17 : decode cX6_signsOfKey 17 = .ok (.lookupswitch 55 #[(100, 53), (101, 53), (104, 53), (115, 53), (116, 51)], 51) := by decide +kernel
theorem dX6_signsOfKey_68 : decode cX6_signsOfKey 68 = .ok (.iconst 4, 1) := by decide +kernel
theorem dX6_signsOfKey_69 : decode cX6_signsOfKey 69 = .ok (.ireturn, 1) := by decide +kernel
theorem dX6_signsOfKey_70 : decode cX6_signsOfKey 70 = .ok (.iconst 3, 1) := by decide +kernel
theorem dX6_signsOfKey_71 : decode cX6_signsOfKey 71 = .ok (.ireturn, 1) := by decide +kernel
theorem dX6_signsOfKey_72 : decode cX6_signsOfKey 72 = .ok (.iconst (-1), 1) := by decide +kernel
theorem dX6_signsOfKey_73 : decode cX6_signsOfKey 73 = .ok (.ireturn, 1) := by decide +kernel
set_option maxHeartbeats 4000000 in
set_option maxRecDepth 100000 in
theorem c_X6_signsOfKey (l : Launch) (D : va_G) (cy : ClassId) (tx txc : Nat) (tx_size : Int32) (txc_a : Nat → Int32)  (g_0 : 0 ≤ tx_size.toInt ∧ tx_size.toInt ≤ 44) : wk_Ci l yX6_signsOfKey cX6_signsOfKey 1 (some .int) { frames := 0, cells := 0, slots := 0, locals := 0 } D cy [.ref tx] [(tx, .inr (6, [.ref txc, .int tx_size])), (txc, .inl (cy, 44, .inl txc_a))] 0 0 (fun (r : Int32) (u : Unit) => r = (fn_X6_signsOfKey tx_size txc_a) ∧ ((-1) ≤ r.toInt ∧ r.toInt ≤ 4)) (fun u => [(tx, .inr (6, [.ref txc, .int tx_size])), (txc, .inl (cy, 44, .inl txc_a))]) := by
  refine wk_mk2Ci (by decide) (Nat.le_of_ble_eq_true rfl) ?_
  intro p e s m args below meth c A ls Q B hA hK hP hD hS hl hret
  obtain ⟨hx, hb, hr, hlocks, hml, hown, htb, hin⟩ := B
  have hl : lv_has ls 1 [(0, .ref tx)] := hl
  have hF : (fn_X6_signsOfKey tx_size txc_a) = (fn_X6_signsOfKey tx_size txc_a) := rfl
  conv at hF => rhs; unfold fn_X6_signsOfKey
  refine lv_aload_n hx hb dX6_signsOfKey_0 rfl (lv_at hl 0 rfl) ?_
  refine va_get (D := D) (ci := 6) (v := .int tx_size) (C := RX6) (T := TX6) (N := 2) hx hb htb inX6 hown hK hP 0 rfl rfl 1 (by decide) (htb _ tw_94) (fun _ h9 => h9) rfl dX6_signsOfKey_1 ?_
  refine lv_if_le (tgt := 16) hx hb dX6_signsOfKey_4 (by decide) (fun c_1 => ?_) (fun c_1 => ?_)
  · have k_1 : tx_size.toInt ≤ 0 := wk_le c_1
    replace hF := hF.trans (if_pos c_1)
    refine lv_iconst (v := 0) hx hb dX6_signsOfKey_16 (by decide) ?_
    refine lv_lookup (off := 55) (tgt := 72) hx hb dX6_signsOfKey_17 (by decide) (by decide) (by decide) ?_
    refine lv_iconst (v := (-1)) hx hb dX6_signsOfKey_72 (by decide) ?_
    refine W.widen (k := 0) (n := 0) (by decide) (by decide) ?_
    exact hret (-1) () _ _ _ 73 (wk_sub9 (is := [0, 1]) hP rfl) (hD.sub [0, 1] rfl rfl) hS dX6_signsOfKey_73 ⟨hF.symm, (show ((-1) ≤ (-1) ∧ (-1) ≤ 4) from by omega)⟩
  · have k_1 : ¬ tx_size.toInt ≤ 0 := wk_nle c_1
    replace hF := hF.trans (if_neg c_1)
    refine lv_aload_n hx hb dX6_signsOfKey_7 rfl (lv_at hl 0 rfl) ?_
    refine va_get (D := D) (ci := 6) (v := .ref txc) (C := RX6) (T := TX6) (N := 2) hx hb htb inX6 hown hK hP 0 rfl rfl 0 (by decide) (htb _ tw_92) (fun _ h9 => h9) rfl dX6_signsOfKey_8 ?_
    refine lv_iconst (v := 0) hx hb dX6_signsOfKey_11 (by decide) ?_
    refine va_iald hx hb hK hP 1 0 rfl rfl (show vp_in 0 44 from vp_in_iff.mpr (show 0 ≤ 0 ∧ 0 < ((44 : Nat) : Int) from by omega)) dX6_signsOfKey_12 ?_
    refine lv_goto (tgt := 17) hx hb dX6_signsOfKey_13 (by decide) ?_
    by_cases c_2 : (txc_a (0 : Int32).toNatClampNeg) = 100
    · refine wk_toi c_2 ?_
      replace hF := hF.trans (if_pos c_2)
      have k_2 : (txc_a (0 : Int32).toNatClampNeg).toInt = 100 := wk_eq c_2
      refine lv_lookup (off := 53) (tgt := 70) hx hb dX6_signsOfKey_17 (by decide) (by decide) (by decide) ?_
      refine lv_iconst (v := 3) hx hb dX6_signsOfKey_70 (by decide) ?_
      refine W.widen (k := 0) (n := 0) (by decide) (by decide) ?_
      exact hret 3 () _ _ _ 71 (wk_sub9 (is := [0, 1]) hP rfl) (hD.sub [0, 1] rfl rfl) hS dX6_signsOfKey_71 ⟨hF.symm, (show ((-1) ≤ 3 ∧ 3 ≤ 4) from by omega)⟩
    replace hF := hF.trans (if_neg c_2)
    have k_2 : ¬ (txc_a (0 : Int32).toNatClampNeg).toInt = 100 := wk_neq c_2
    by_cases c_3 : (txc_a (0 : Int32).toNatClampNeg) = 101
    · refine wk_toi c_3 ?_
      replace hF := hF.trans (if_pos c_3)
      have k_3 : (txc_a (0 : Int32).toNatClampNeg).toInt = 101 := wk_eq c_3
      refine lv_lookup (off := 53) (tgt := 70) hx hb dX6_signsOfKey_17 (by decide) (by decide) (by decide) ?_
      refine lv_iconst (v := 3) hx hb dX6_signsOfKey_70 (by decide) ?_
      refine W.widen (k := 0) (n := 0) (by decide) (by decide) ?_
      exact hret 3 () _ _ _ 71 (wk_sub9 (is := [0, 1]) hP rfl) (hD.sub [0, 1] rfl rfl) hS dX6_signsOfKey_71 ⟨hF.symm, (show ((-1) ≤ 3 ∧ 3 ≤ 4) from by omega)⟩
    replace hF := hF.trans (if_neg c_3)
    have k_3 : ¬ (txc_a (0 : Int32).toNatClampNeg).toInt = 101 := wk_neq c_3
    by_cases c_4 : (txc_a (0 : Int32).toNatClampNeg) = 104
    · refine wk_toi c_4 ?_
      replace hF := hF.trans (if_pos c_4)
      have k_4 : (txc_a (0 : Int32).toNatClampNeg).toInt = 104 := wk_eq c_4
      refine lv_lookup (off := 53) (tgt := 70) hx hb dX6_signsOfKey_17 (by decide) (by decide) (by decide) ?_
      refine lv_iconst (v := 3) hx hb dX6_signsOfKey_70 (by decide) ?_
      refine W.widen (k := 0) (n := 0) (by decide) (by decide) ?_
      exact hret 3 () _ _ _ 71 (wk_sub9 (is := [0, 1]) hP rfl) (hD.sub [0, 1] rfl rfl) hS dX6_signsOfKey_71 ⟨hF.symm, (show ((-1) ≤ 3 ∧ 3 ≤ 4) from by omega)⟩
    replace hF := hF.trans (if_neg c_4)
    have k_4 : ¬ (txc_a (0 : Int32).toNatClampNeg).toInt = 104 := wk_neq c_4
    by_cases c_5 : (txc_a (0 : Int32).toNatClampNeg) = 115
    · refine wk_toi c_5 ?_
      replace hF := hF.trans (if_pos c_5)
      have k_5 : (txc_a (0 : Int32).toNatClampNeg).toInt = 115 := wk_eq c_5
      refine lv_lookup (off := 53) (tgt := 70) hx hb dX6_signsOfKey_17 (by decide) (by decide) (by decide) ?_
      refine lv_iconst (v := 3) hx hb dX6_signsOfKey_70 (by decide) ?_
      refine W.widen (k := 0) (n := 0) (by decide) (by decide) ?_
      exact hret 3 () _ _ _ 71 (wk_sub9 (is := [0, 1]) hP rfl) (hD.sub [0, 1] rfl rfl) hS dX6_signsOfKey_71 ⟨hF.symm, (show ((-1) ≤ 3 ∧ 3 ≤ 4) from by omega)⟩
    replace hF := hF.trans (if_neg c_5)
    have k_5 : ¬ (txc_a (0 : Int32).toNatClampNeg).toInt = 115 := wk_neq c_5
    by_cases c_6 : (txc_a (0 : Int32).toNatClampNeg) = 116
    · refine wk_toi c_6 ?_
      replace hF := hF.trans (if_pos c_6)
      have k_6 : (txc_a (0 : Int32).toNatClampNeg).toInt = 116 := wk_eq c_6
      refine lv_lookup (off := 51) (tgt := 68) hx hb dX6_signsOfKey_17 (by decide) (by decide) (by decide) ?_
      refine lv_iconst (v := 4) hx hb dX6_signsOfKey_68 (by decide) ?_
      refine W.widen (k := 0) (n := 0) (by decide) (by decide) ?_
      exact hret 4 () _ _ _ 69 (wk_sub9 (is := [0, 1]) hP rfl) (hD.sub [0, 1] rfl rfl) hS dX6_signsOfKey_69 ⟨hF.symm, (show ((-1) ≤ 4 ∧ 4 ≤ 4) from by omega)⟩
    replace hF := hF.trans (if_neg c_6)
    have k_6 : ¬ (txc_a (0 : Int32).toNatClampNeg).toInt = 116 := wk_neq c_6
    refine lv_lookup (off := 55) (tgt := 72) hx hb dX6_signsOfKey_17 (by decide) ((lv_osw c_2 rfl).trans ((lv_osw c_3 rfl).trans ((lv_osw c_4 rfl).trans ((lv_osw c_5 rfl).trans ((lv_osw c_6 rfl).trans rfl))))) (by decide) ?_
    refine lv_iconst (v := (-1)) hx hb dX6_signsOfKey_72 (by decide) ?_
    refine W.widen (k := 0) (n := 0) (by decide) (by decide) ?_
    exact hret (-1) () _ _ _ 73 (wk_sub9 (is := [0, 1]) hP rfl) (hD.sub [0, 1] rfl rfl) hS dX6_signsOfKey_73 ⟨hF.symm, (show ((-1) ≤ (-1) ∧ (-1) ≤ 4) from by omega)⟩
def fn_X6_fits (tx_size : Int32) (txc_a : Nat → Int32) (a : Int32) (b : Int32) (d : Int32) (e1 : Int32) : Int32 := (if d = e1 then (if (txc_a a.toNatClampNeg) = 44 then (if (7 : Int32) ≤ b then 0 else 1) else 0) else (if (txc_a a.toNatClampNeg) < 48 then 0 else (if (txc_a a.toNatClampNeg) ≤ 57 then (if d = 1 then (if b = 0 then 1 else (if (fn_X6_keyAt tx_size txc_a (a - 1)) ≤ (fn_X6_keyAt tx_size txc_a ((a - e1) - 2)) then 0 else 1)) else (if d = 3 then (if (txc_a a.toNatClampNeg) < 49 then 0 else (if (52 : Int32) < (txc_a a.toNatClampNeg) then 0 else 1)) else 1)) else 0)))
theorem dX6_fits_0 : decode cX6_fits 0 = .ok (.aload_n 0, 1) := by decide +kernel
theorem dX6_fits_1 : decode cX6_fits 1 = .ok (.getfield 9, 3) := by decide +kernel
theorem dX6_fits_4 : decode cX6_fits 4 = .ok (.iload_n 1, 1) := by decide +kernel
theorem dX6_fits_5 : decode cX6_fits 5 = .ok (.iaload, 1) := by decide +kernel
theorem dX6_fits_6 : decode cX6_fits 6 = .ok (.istore 5, 2) := by decide +kernel
theorem dX6_fits_8 : decode cX6_fits 8 = .ok (.iload_n 3, 1) := by decide +kernel
theorem dX6_fits_9 : decode cX6_fits 9 = .ok (.iload 4, 2) := by decide +kernel
theorem dX6_fits_11 : decode cX6_fits 11 = .ok (.if_icmp .ne 22, 3) := by decide +kernel
theorem dX6_fits_14 : decode cX6_fits 14 = .ok (.iload 5, 2) := by decide +kernel
theorem dX6_fits_16 : decode cX6_fits 16 = .ok (.bipush 44, 2) := by decide +kernel
theorem dX6_fits_18 : decode cX6_fits 18 = .ok (.if_icmp .ne 13, 3) := by decide +kernel
theorem dX6_fits_21 : decode cX6_fits 21 = .ok (.iload_n 2, 1) := by decide +kernel
theorem dX6_fits_22 : decode cX6_fits 22 = .ok (.bipush 7, 2) := by decide +kernel
theorem dX6_fits_24 : decode cX6_fits 24 = .ok (.if_icmp .ge 7, 3) := by decide +kernel
theorem dX6_fits_27 : decode cX6_fits 27 = .ok (.iconst 1, 1) := by decide +kernel
theorem dX6_fits_28 : decode cX6_fits 28 = .ok (.goto 4, 3) := by decide +kernel
theorem dX6_fits_31 : decode cX6_fits 31 = .ok (.iconst 0, 1) := by decide +kernel
theorem dX6_fits_32 : decode cX6_fits 32 = .ok (.ireturn, 1) := by decide +kernel
theorem dX6_fits_33 : decode cX6_fits 33 = .ok (.iload 5, 2) := by decide +kernel
theorem dX6_fits_35 : decode cX6_fits 35 = .ok (.bipush 48, 2) := by decide +kernel
theorem dX6_fits_37 : decode cX6_fits 37 = .ok (.if_icmp .lt 10, 3) := by decide +kernel
theorem dX6_fits_40 : decode cX6_fits 40 = .ok (.iload 5, 2) := by decide +kernel
theorem dX6_fits_42 : decode cX6_fits 42 = .ok (.bipush 57, 2) := by decide +kernel
theorem dX6_fits_44 : decode cX6_fits 44 = .ok (.if_icmp .le 5, 3) := by decide +kernel
theorem dX6_fits_47 : decode cX6_fits 47 = .ok (.iconst 0, 1) := by decide +kernel
theorem dX6_fits_48 : decode cX6_fits 48 = .ok (.ireturn, 1) := by decide +kernel
theorem dX6_fits_49 : decode cX6_fits 49 = .ok (.iload_n 3, 1) := by decide +kernel
theorem dX6_fits_50 : decode cX6_fits 50 = .ok (.iconst 1, 1) := by decide +kernel
theorem dX6_fits_51 : decode cX6_fits 51 = .ok (.if_icmp .ne 33, 3) := by decide +kernel
theorem dX6_fits_54 : decode cX6_fits 54 = .ok (.iload_n 2, 1) := by decide +kernel
theorem dX6_fits_55 : decode cX6_fits 55 = .ok (.ifCond .eq 23, 3) := by decide +kernel
theorem dX6_fits_58 : decode cX6_fits 58 = .ok (.aload_n 0, 1) := by decide +kernel
theorem dX6_fits_59 : decode cX6_fits 59 = .ok (.iload_n 1, 1) := by decide +kernel
theorem dX6_fits_60 : decode cX6_fits 60 = .ok (.iconst 1, 1) := by decide +kernel
theorem dX6_fits_61 : decode cX6_fits 61 = .ok (.isub, 1) := by decide +kernel
theorem dX6_fits_62 : decode cX6_fits 62 = .ok (.invokevirtual 65, 3) := by decide +kernel
theorem dX6_fits_65 : decode cX6_fits 65 = .ok (.aload_n 0, 1) := by decide +kernel
theorem dX6_fits_66 : decode cX6_fits 66 = .ok (.iload_n 1, 1) := by decide +kernel
theorem dX6_fits_67 : decode cX6_fits 67 = .ok (.iload 4, 2) := by decide +kernel
theorem dX6_fits_69 : decode cX6_fits 69 = .ok (.isub, 1) := by decide +kernel
theorem dX6_fits_70 : decode cX6_fits 70 = .ok (.iconst 2, 1) := by decide +kernel
theorem dX6_fits_71 : decode cX6_fits 71 = .ok (.isub, 1) := by decide +kernel
theorem dX6_fits_72 : decode cX6_fits 72 = .ok (.invokevirtual 65, 3) := by decide +kernel
theorem dX6_fits_75 : decode cX6_fits 75 = .ok (.if_icmp .le 7, 3) := by decide +kernel
theorem dX6_fits_78 : decode cX6_fits 78 = .ok (.iconst 1, 1) := by decide +kernel
theorem dX6_fits_79 : decode cX6_fits 79 = .ok (.goto 4, 3) := by decide +kernel
theorem dX6_fits_82 : decode cX6_fits 82 = .ok (.iconst 0, 1) := by decide +kernel
theorem dX6_fits_83 : decode cX6_fits 83 = .ok (.ireturn, 1) := by decide +kernel
theorem dX6_fits_84 : decode cX6_fits 84 = .ok (.iload_n 3, 1) := by decide +kernel
theorem dX6_fits_85 : decode cX6_fits 85 = .ok (.iconst 3, 1) := by decide +kernel
theorem dX6_fits_86 : decode cX6_fits 86 = .ok (.if_icmp .ne 17, 3) := by decide +kernel
theorem dX6_fits_89 : decode cX6_fits 89 = .ok (.iload 5, 2) := by decide +kernel
theorem dX6_fits_91 : decode cX6_fits 91 = .ok (.bipush 49, 2) := by decide +kernel
theorem dX6_fits_93 : decode cX6_fits 93 = .ok (.if_icmp .lt 14, 3) := by decide +kernel
theorem dX6_fits_96 : decode cX6_fits 96 = .ok (.iload 5, 2) := by decide +kernel
theorem dX6_fits_98 : decode cX6_fits 98 = .ok (.bipush 52, 2) := by decide +kernel
theorem dX6_fits_100 : decode cX6_fits 100 = .ok (.if_icmp .gt 7, 3) := by decide +kernel
theorem dX6_fits_103 : decode cX6_fits 103 = .ok (.iconst 1, 1) := by decide +kernel
theorem dX6_fits_104 : decode cX6_fits 104 = .ok (.goto 4, 3) := by decide +kernel
theorem dX6_fits_107 : decode cX6_fits 107 = .ok (.iconst 0, 1) := by decide +kernel
theorem dX6_fits_108 : decode cX6_fits 108 = .ok (.ireturn, 1) := by decide +kernel
set_option maxHeartbeats 4000000 in
set_option maxRecDepth 100000 in
theorem c_X6_fits (l : Launch) (D : va_G) (cy : ClassId) (tx txc : Nat) (tx_size : Int32) (txc_a : Nat → Int32) (a : Int32) (b : Int32) (d : Int32) (e1 : Int32) (g_0 : 0 ≤ tx_size.toInt ∧ tx_size.toInt ≤ 44) (g_1 : 0 ≤ a.toInt ∧ a.toInt ≤ 43) : wk_Ci l yX6_fits cX6_fits 6 (some .boolean) { frames := 2, cells := 0, slots := 0, locals := 42 } D cy [.ref tx, .int a, .int b, .int d, .int e1] [(tx, .inr (6, [.ref txc, .int tx_size])), (txc, .inl (cy, 44, .inl txc_a))] 0 0 (fun (r : Int32) (u : Unit) => r = (fn_X6_fits tx_size txc_a a b d e1) ∧ (r = 0 ∨ r = 1)) (fun u => [(tx, .inr (6, [.ref txc, .int tx_size])), (txc, .inl (cy, 44, .inl txc_a))]) := by
  refine wk_mk2Cz (by decide) (Nat.le_of_ble_eq_true rfl) ?_
  intro p e s m args below meth c A ls Q B hA hK hP hD hS hl hret
  obtain ⟨hx, hb, hr, hlocks, hml, hown, htb, hin⟩ := B
  have hl : lv_has ls 6 [(0, .ref tx), (1, .int a), (2, .int b), (3, .int d), (4, .int e1)] := hl
  have hF : (fn_X6_fits tx_size txc_a a b d e1) = (fn_X6_fits tx_size txc_a a b d e1) := rfl
  conv at hF => rhs; unfold fn_X6_fits
  refine lv_aload_n hx hb dX6_fits_0 rfl (lv_at hl 0 rfl) ?_
  refine va_get (D := D) (ci := 6) (v := .ref txc) (C := RX6) (T := TX6) (N := 2) hx hb htb inX6 hown hK hP 0 rfl rfl 0 (by decide) (htb _ tw_92) (fun _ h9 => h9) rfl dX6_fits_1 ?_
  refine lv_iload_n hx hb dX6_fits_4 rfl (lv_at hl 1 rfl) ?_
  refine va_iald hx hb hK hP 1 0 rfl rfl (show vp_in a 44 from vp_in_iff.mpr (show 0 ≤ a.toInt ∧ a.toInt < ((44 : Nat) : Int) from by omega)) dX6_fits_5 ?_
  refine lv_istore (lv' := [(5, .int (txc_a a.toNatClampNeg)), (0, .ref tx), (1, .int a), (2, .int b), (3, .int d), (4, .int e1)]) hx hb dX6_fits_6 hl (by decide) rfl (fun ls hl => ?_)
  refine lv_iload_n hx hb dX6_fits_8 rfl (lv_at hl 4 rfl) ?_
  refine lv_iload hx hb dX6_fits_9 (lv_at hl 5 rfl) ?_
  refine lv_icmp_ne (tgt := 33) hx hb dX6_fits_11 (by decide) (fun c_1 => ?_) (fun c_1 => ?_)
  · have k_1 : ¬ d.toInt = e1.toInt := wk_neq c_1
    replace hF := hF.trans (if_neg c_1)
    refine lv_iload hx hb dX6_fits_33 (lv_at hl 0 rfl) ?_
    refine lv_bipush (v := 48) hx hb dX6_fits_35 (by decide) ?_
    refine lv_icmp_lt (tgt := 47) hx hb dX6_fits_37 (by decide) (fun c_2 => ?_) (fun c_2 => ?_)
    · have k_2 : (txc_a a.toNatClampNeg).toInt < 48 := wk_lt c_2
      replace hF := hF.trans (if_pos c_2)
      refine lv_iconst (v := 0) hx hb dX6_fits_47 (by decide) ?_
      refine W.widen (k := 0) (n := 0) (by decide) (by decide) ?_
      exact hret 0 () _ _ _ 48 (wk_nb (by first | exact Or.inl rfl | exact Or.inr rfl | assumption)) (wk_sub9 (is := [0, 1]) hP rfl) (hD.sub [0, 1] rfl rfl) hS dX6_fits_48 ⟨hF.symm, (by first | exact Or.inl rfl | exact Or.inr rfl | assumption)⟩
    · have k_2 : ¬ (txc_a a.toNatClampNeg).toInt < 48 := wk_nlt c_2
      replace hF := hF.trans (if_neg c_2)
      refine lv_iload hx hb dX6_fits_40 (lv_at hl 0 rfl) ?_
      refine lv_bipush (v := 57) hx hb dX6_fits_42 (by decide) ?_
      refine lv_icmp_le (tgt := 49) hx hb dX6_fits_44 (by decide) (fun c_3 => ?_) (fun c_3 => ?_)
      · have k_3 : (txc_a a.toNatClampNeg).toInt ≤ 57 := wk_le c_3
        replace hF := hF.trans (if_pos c_3)
        refine lv_iload_n hx hb dX6_fits_49 rfl (lv_at hl 4 rfl) ?_
        refine lv_iconst (v := 1) hx hb dX6_fits_50 (by decide) ?_
        refine lv_icmp_ne (tgt := 84) hx hb dX6_fits_51 (by decide) (fun c_4 => ?_) (fun c_4 => ?_)
        · have k_4 : ¬ d.toInt = 1 := wk_neq c_4
          replace hF := hF.trans (if_neg c_4)
          refine lv_iload_n hx hb dX6_fits_84 rfl (lv_at hl 4 rfl) ?_
          refine lv_iconst (v := 3) hx hb dX6_fits_85 (by decide) ?_
          refine lv_icmp_ne (tgt := 103) hx hb dX6_fits_86 (by decide) (fun c_5 => ?_) (fun c_5 => ?_)
          · have k_5 : ¬ d.toInt = 3 := wk_neq c_5
            replace hF := hF.trans (if_neg c_5)
            refine lv_iconst (v := 1) hx hb dX6_fits_103 (by decide) ?_
            refine lv_goto (tgt := 108) hx hb dX6_fits_104 (by decide) ?_
            refine W.widen (k := 0) (n := 0) (by decide) (by decide) ?_
            exact hret 1 () _ _ _ 108 (wk_nb (by first | exact Or.inl rfl | exact Or.inr rfl | assumption)) (wk_sub9 (is := [0, 1]) hP rfl) (hD.sub [0, 1] rfl rfl) hS dX6_fits_108 ⟨hF.symm, (by first | exact Or.inl rfl | exact Or.inr rfl | assumption)⟩
          · have k_5 : d.toInt = 3 := wk_eq c_5
            replace hF := hF.trans (if_pos c_5)
            refine lv_iload hx hb dX6_fits_89 (lv_at hl 0 rfl) ?_
            refine lv_bipush (v := 49) hx hb dX6_fits_91 (by decide) ?_
            refine lv_icmp_lt (tgt := 107) hx hb dX6_fits_93 (by decide) (fun c_6 => ?_) (fun c_6 => ?_)
            · have k_6 : (txc_a a.toNatClampNeg).toInt < 49 := wk_lt c_6
              replace hF := hF.trans (if_pos c_6)
              refine lv_iconst (v := 0) hx hb dX6_fits_107 (by decide) ?_
              refine W.widen (k := 0) (n := 0) (by decide) (by decide) ?_
              exact hret 0 () _ _ _ 108 (wk_nb (by first | exact Or.inl rfl | exact Or.inr rfl | assumption)) (wk_sub9 (is := [0, 1]) hP rfl) (hD.sub [0, 1] rfl rfl) hS dX6_fits_108 ⟨hF.symm, (by first | exact Or.inl rfl | exact Or.inr rfl | assumption)⟩
            · have k_6 : ¬ (txc_a a.toNatClampNeg).toInt < 49 := wk_nlt c_6
              replace hF := hF.trans (if_neg c_6)
              refine lv_iload hx hb dX6_fits_96 (lv_at hl 0 rfl) ?_
              refine lv_bipush (v := 52) hx hb dX6_fits_98 (by decide) ?_
              refine lv_icmp_gt (tgt := 107) hx hb dX6_fits_100 (by decide) (fun c_7 => ?_) (fun c_7 => ?_)
              · have k_7 : 52 < (txc_a a.toNatClampNeg).toInt := wk_lt c_7
                replace hF := hF.trans (if_pos c_7)
                refine lv_iconst (v := 0) hx hb dX6_fits_107 (by decide) ?_
                refine W.widen (k := 0) (n := 0) (by decide) (by decide) ?_
                exact hret 0 () _ _ _ 108 (wk_nb (by first | exact Or.inl rfl | exact Or.inr rfl | assumption)) (wk_sub9 (is := [0, 1]) hP rfl) (hD.sub [0, 1] rfl rfl) hS dX6_fits_108 ⟨hF.symm, (by first | exact Or.inl rfl | exact Or.inr rfl | assumption)⟩
              · have k_7 : ¬ 52 < (txc_a a.toNatClampNeg).toInt := wk_nlt c_7
                replace hF := hF.trans (if_neg c_7)
                refine lv_iconst (v := 1) hx hb dX6_fits_103 (by decide) ?_
                refine lv_goto (tgt := 108) hx hb dX6_fits_104 (by decide) ?_
                refine W.widen (k := 0) (n := 0) (by decide) (by decide) ?_
                exact hret 1 () _ _ _ 108 (wk_nb (by first | exact Or.inl rfl | exact Or.inr rfl | assumption)) (wk_sub9 (is := [0, 1]) hP rfl) (hD.sub [0, 1] rfl rfl) hS dX6_fits_108 ⟨hF.symm, (by first | exact Or.inl rfl | exact Or.inr rfl | assumption)⟩
        · have k_4 : d.toInt = 1 := wk_eq c_4
          replace hF := hF.trans (if_pos c_4)
          refine lv_iload_n hx hb dX6_fits_54 rfl (lv_at hl 3 rfl) ?_
          refine lv_if_eq (tgt := 78) hx hb dX6_fits_55 (by decide) (fun c_8 => ?_) (fun c_8 => ?_)
          · have k_8 : b.toInt = 0 := wk_eq c_8
            replace hF := hF.trans (if_pos c_8)
            refine lv_iconst (v := 1) hx hb dX6_fits_78 (by decide) ?_
            refine lv_goto (tgt := 83) hx hb dX6_fits_79 (by decide) ?_
            refine W.widen (k := 0) (n := 0) (by decide) (by decide) ?_
            exact hret 1 () _ _ _ 83 (wk_nb (by first | exact Or.inl rfl | exact Or.inr rfl | assumption)) (wk_sub9 (is := [0, 1]) hP rfl) (hD.sub [0, 1] rfl rfl) hS dX6_fits_83 ⟨hF.symm, (by first | exact Or.inl rfl | exact Or.inr rfl | assumption)⟩
          · have k_8 : ¬ b.toInt = 0 := wk_neq c_8
            replace hF := hF.trans (if_neg c_8)
            refine lv_aload_n hx hb dX6_fits_58 rfl (lv_at hl 1 rfl) ?_
            refine lv_iload_n hx hb dX6_fits_59 rfl (lv_at hl 2 rfl) ?_
            refine lv_iconst (v := 1) hx hb dX6_fits_60 (by decide) ?_
            refine lv_isub hx hb dX6_fits_61 ?_
            have k_9 : (a - 1).toInt = a.toInt - 1 := wk_sub a.toInt 1 rfl rfl (by omega) (by omega)
            refine wk_iV (As := [.int (a - 1)]) (rest := []) (wc := [(tx, .inr (6, [.ref txc, .int tx_size])), (txc, .inl (cy, 44, .inl txc_a))]) (wr := []) (n := 1) ⟨hx, hb, hml, hown, htb⟩ (c_X6_keyAt l D cy tx txc tx_size txc_a (a - 1) (show 0 ≤ tx_size.toInt ∧ tx_size.toInt ≤ 44 from by omega)) tw_318 tw_315 tw_317 tw_2 tw_65 rfl rfl (by decide +kernel) ⟨Nat.le_of_ble_eq_true rfl, Nat.le_of_ble_eq_true rfl⟩ hK hP hD hS hA [0, 1] [] rfl rfl rfl rfl (by decide) 0 (ci := 6) rfl rfl rfl hl.1 rfl (Nat.le_of_ble_eq_true rfl) dX6_fits_62 ⟨Nat.le_of_ble_eq_true rfl, Nat.le_of_ble_eq_true rfl⟩ (fun r_10 u_11 H locs hw_12 hP hD hS => ?_)
            refine W.widen (k := 0) (n := 0) (by decide) (by decide) ?_
            have hw_12 : r_10 = (fn_X6_keyAt tx_size txc_a (a - 1)) := hw_12
            subst hw_12
            have hP : va_P D classes [(tx, .inr (6, [.ref txc, .int tx_size])), (txc, .inl (cy, 44, .inl txc_a))] H := hP
            have hD : va_D A [(tx, .inr (6, [.ref txc, .int tx_size])), (txc, .inl (cy, 44, .inl txc_a))] := hD
            refine lv_aload_n hx hb dX6_fits_65 rfl (lv_at hl 1 rfl) ?_
            refine lv_iload_n hx hb dX6_fits_66 rfl (lv_at hl 2 rfl) ?_
            refine lv_iload hx hb dX6_fits_67 (lv_at hl 5 rfl) ?_
            refine lv_isub hx hb dX6_fits_69 ?_
            refine lv_iconst (v := 2) hx hb dX6_fits_70 (by decide) ?_
            refine lv_isub hx hb dX6_fits_71 ?_
            refine wk_iV (As := [.int ((a - e1) - 2)]) (rest := [.int (fn_X6_keyAt tx_size txc_a (a - 1))]) (wc := [(tx, .inr (6, [.ref txc, .int tx_size])), (txc, .inl (cy, 44, .inl txc_a))]) (wr := []) (n := 1) ⟨hx, hb, hml, hown, htb⟩ (c_X6_keyAt l D cy tx txc tx_size txc_a ((a - e1) - 2) (show 0 ≤ tx_size.toInt ∧ tx_size.toInt ≤ 44 from by omega)) tw_318 tw_315 tw_317 tw_2 tw_65 rfl rfl (by decide +kernel) ⟨Nat.le_of_ble_eq_true rfl, Nat.le_of_ble_eq_true rfl⟩ hK hP hD hS hA [0, 1] [] rfl rfl rfl rfl (by decide) 0 (ci := 6) rfl rfl rfl hl.1 rfl (Nat.le_of_ble_eq_true rfl) dX6_fits_72 ⟨Nat.le_of_ble_eq_true rfl, Nat.le_of_ble_eq_true rfl⟩ (fun r_13 u_14 H locs hw_15 hP hD hS => ?_)
            refine W.widen (k := 0) (n := 0) (by decide) (by decide) ?_
            have hw_15 : r_13 = (fn_X6_keyAt tx_size txc_a ((a - e1) - 2)) := hw_15
            subst hw_15
            have hP : va_P D classes [(tx, .inr (6, [.ref txc, .int tx_size])), (txc, .inl (cy, 44, .inl txc_a))] H := hP
            have hD : va_D A [(tx, .inr (6, [.ref txc, .int tx_size])), (txc, .inl (cy, 44, .inl txc_a))] := hD
            refine lv_icmp_le (tgt := 82) hx hb dX6_fits_75 (by decide) (fun c_16 => ?_) (fun c_16 => ?_)
            · have k_16 : (fn_X6_keyAt tx_size txc_a (a - 1)).toInt ≤ (fn_X6_keyAt tx_size txc_a ((a - e1) - 2)).toInt := wk_le c_16
              replace hF := hF.trans (if_pos c_16)
              refine lv_iconst (v := 0) hx hb dX6_fits_82 (by decide) ?_
              refine W.widen (k := 0) (n := 0) (by decide) (by decide) ?_
              exact hret 0 () _ _ _ 83 (wk_nb (by first | exact Or.inl rfl | exact Or.inr rfl | assumption)) (wk_sub9 (is := [0, 1]) hP rfl) (hD.sub [0, 1] rfl rfl) hS dX6_fits_83 ⟨hF.symm, (by first | exact Or.inl rfl | exact Or.inr rfl | assumption)⟩
            · have k_16 : ¬ (fn_X6_keyAt tx_size txc_a (a - 1)).toInt ≤ (fn_X6_keyAt tx_size txc_a ((a - e1) - 2)).toInt := wk_nle c_16
              replace hF := hF.trans (if_neg c_16)
              refine lv_iconst (v := 1) hx hb dX6_fits_78 (by decide) ?_
              refine lv_goto (tgt := 83) hx hb dX6_fits_79 (by decide) ?_
              refine W.widen (k := 0) (n := 0) (by decide) (by decide) ?_
              exact hret 1 () _ _ _ 83 (wk_nb (by first | exact Or.inl rfl | exact Or.inr rfl | assumption)) (wk_sub9 (is := [0, 1]) hP rfl) (hD.sub [0, 1] rfl rfl) hS dX6_fits_83 ⟨hF.symm, (by first | exact Or.inl rfl | exact Or.inr rfl | assumption)⟩
      · have k_3 : ¬ (txc_a a.toNatClampNeg).toInt ≤ 57 := wk_nle c_3
        replace hF := hF.trans (if_neg c_3)
        refine lv_iconst (v := 0) hx hb dX6_fits_47 (by decide) ?_
        refine W.widen (k := 0) (n := 0) (by decide) (by decide) ?_
        exact hret 0 () _ _ _ 48 (wk_nb (by first | exact Or.inl rfl | exact Or.inr rfl | assumption)) (wk_sub9 (is := [0, 1]) hP rfl) (hD.sub [0, 1] rfl rfl) hS dX6_fits_48 ⟨hF.symm, (by first | exact Or.inl rfl | exact Or.inr rfl | assumption)⟩
  · have k_1 : d.toInt = e1.toInt := wk_eq c_1
    replace hF := hF.trans (if_pos c_1)
    refine lv_iload hx hb dX6_fits_14 (lv_at hl 0 rfl) ?_
    refine lv_bipush (v := 44) hx hb dX6_fits_16 (by decide) ?_
    refine lv_icmp_ne (tgt := 31) hx hb dX6_fits_18 (by decide) (fun c_17 => ?_) (fun c_17 => ?_)
    · have k_17 : ¬ (txc_a a.toNatClampNeg).toInt = 44 := wk_neq c_17
      replace hF := hF.trans (if_neg c_17)
      refine lv_iconst (v := 0) hx hb dX6_fits_31 (by decide) ?_
      refine W.widen (k := 0) (n := 0) (by decide) (by decide) ?_
      exact hret 0 () _ _ _ 32 (wk_nb (by first | exact Or.inl rfl | exact Or.inr rfl | assumption)) (wk_sub9 (is := [0, 1]) hP rfl) (hD.sub [0, 1] rfl rfl) hS dX6_fits_32 ⟨hF.symm, (by first | exact Or.inl rfl | exact Or.inr rfl | assumption)⟩
    · have k_17 : (txc_a a.toNatClampNeg).toInt = 44 := wk_eq c_17
      replace hF := hF.trans (if_pos c_17)
      refine lv_iload_n hx hb dX6_fits_21 rfl (lv_at hl 3 rfl) ?_
      refine lv_bipush (v := 7) hx hb dX6_fits_22 (by decide) ?_
      refine lv_icmp_ge (tgt := 31) hx hb dX6_fits_24 (by decide) (fun c_18 => ?_) (fun c_18 => ?_)
      · have k_18 : 7 ≤ b.toInt := wk_le c_18
        replace hF := hF.trans (if_pos c_18)
        refine lv_iconst (v := 0) hx hb dX6_fits_31 (by decide) ?_
        refine W.widen (k := 0) (n := 0) (by decide) (by decide) ?_
        exact hret 0 () _ _ _ 32 (wk_nb (by first | exact Or.inl rfl | exact Or.inr rfl | assumption)) (wk_sub9 (is := [0, 1]) hP rfl) (hD.sub [0, 1] rfl rfl) hS dX6_fits_32 ⟨hF.symm, (by first | exact Or.inl rfl | exact Or.inr rfl | assumption)⟩
      · have k_18 : ¬ 7 ≤ b.toInt := wk_nle c_18
        replace hF := hF.trans (if_neg c_18)
        refine lv_iconst (v := 1) hx hb dX6_fits_27 (by decide) ?_
        refine lv_goto (tgt := 32) hx hb dX6_fits_28 (by decide) ?_
        refine W.widen (k := 0) (n := 0) (by decide) (by decide) ?_
        exact hret 1 () _ _ _ 32 (wk_nb (by first | exact Or.inl rfl | exact Or.inr rfl | assumption)) (wk_sub9 (is := [0, 1]) hP rfl) (hD.sub [0, 1] rfl rfl) hS dX6_fits_32 ⟨hF.symm, (by first | exact Or.inl rfl | exact Or.inr rfl | assumption)⟩
def lp_X6_firstFault_40 (tx_size : Int32) (txc_a : Nat → Int32) : Nat → Int32 → Int32 → Int32 → Int32
  | 0, _, _, _ => default
  | fu_40 + 1, x2_40, x3_40, x4_40 => (if tx_size ≤ x4_40 then tx_size else (if (fn_X6_fits tx_size txc_a x4_40 x2_40 x3_40 (fn_X6_signsOfKey tx_size txc_a)) = 0 then x4_40 else (if (x3_40 + 1) ≤ (fn_X6_signsOfKey tx_size txc_a) then (lp_X6_firstFault_40 tx_size txc_a fu_40 x2_40 (x3_40 + 1) (x4_40 + 1)) else (lp_X6_firstFault_40 tx_size txc_a fu_40 (x2_40 + 1) 0 (x4_40 + 1)))))
termination_by n => n
def fn_X6_firstFault (tx_size : Int32) (txc_a : Nat → Int32) : Int32 := (if (fn_X6_signsOfKey tx_size txc_a) = (-1) then 0 else (if tx_size ≤ 1 then (lp_X6_firstFault_40 tx_size txc_a 50 0 0 2) else (if (txc_a (1 : Int32).toNatClampNeg) = 59 then (lp_X6_firstFault_40 tx_size txc_a 50 0 0 2) else 1)))
theorem dX6_firstFault_0 : decode cX6_firstFault 0 = .ok (.aload_n 0, 1) := by decide +kernel
theorem dX6_firstFault_1 : decode cX6_firstFault 1 = .ok (.invokevirtual 49, 3) := by decide +kernel
theorem dX6_firstFault_4 : decode cX6_firstFault 4 = .ok (.istore_n 1, 1) := by decide +kernel
theorem dX6_firstFault_5 : decode cX6_firstFault 5 = .ok (.iload_n 1, 1) := by decide +kernel
theorem dX6_firstFault_6 : decode cX6_firstFault 6 = .ok (.iconst (-1), 1) := by decide +kernel
theorem dX6_firstFault_7 : decode cX6_firstFault 7 = .ok (.if_icmp .ne 5, 3) := by decide +kernel
theorem dX6_firstFault_10 : decode cX6_firstFault 10 = .ok (.iconst 0, 1) := by decide +kernel
theorem dX6_firstFault_11 : decode cX6_firstFault 11 = .ok (.ireturn, 1) := by decide +kernel
theorem dX6_firstFault_12 : decode cX6_firstFault 12 = .ok (.aload_n 0, 1) := by decide +kernel
theorem dX6_firstFault_13 : decode cX6_firstFault 13 = .ok (.getfield 15, 3) := by decide +kernel
theorem dX6_firstFault_16 : decode cX6_firstFault 16 = .ok (.iconst 1, 1) := by decide +kernel
theorem dX6_firstFault_17 : decode cX6_firstFault 17 = .ok (.if_icmp .le 16, 3) := by decide +kernel
theorem dX6_firstFault_20 : decode cX6_firstFault 20 = .ok (.aload_n 0, 1) := by decide +kernel
theorem dX6_firstFault_21 : decode cX6_firstFault 21 = .ok (.getfield 9, 3) := by decide +kernel
theorem dX6_firstFault_24 : decode cX6_firstFault 24 = .ok (.iconst 1, 1) := by decide +kernel
theorem dX6_firstFault_25 : decode cX6_firstFault 25 = .ok (.iaload, 1) := by decide +kernel
theorem dX6_firstFault_26 : decode cX6_firstFault 26 = .ok (.bipush 59, 2) := by decide +kernel
theorem dX6_firstFault_28 : decode cX6_firstFault 28 = .ok (.if_icmp .eq 5, 3) := by decide +kernel
theorem dX6_firstFault_31 : decode cX6_firstFault 31 = .ok (.iconst 1, 1) := by decide +kernel
theorem dX6_firstFault_32 : decode cX6_firstFault 32 = .ok (.ireturn, 1) := by decide +kernel
theorem dX6_firstFault_33 : decode cX6_firstFault 33 = .ok (.iconst 0, 1) := by decide +kernel
theorem dX6_firstFault_34 : decode cX6_firstFault 34 = .ok (.istore_n 2, 1) := by decide +kernel
theorem dX6_firstFault_35 : decode cX6_firstFault 35 = .ok (.iconst 0, 1) := by decide +kernel
theorem dX6_firstFault_36 : decode cX6_firstFault 36 = .ok (.istore_n 3, 1) := by decide +kernel
theorem dX6_firstFault_37 : decode cX6_firstFault 37 = .ok (.iconst 2, 1) := by decide +kernel
theorem dX6_firstFault_38 : decode cX6_firstFault 38 = .ok (.istore 4, 2) := by decide +kernel
theorem dX6_firstFault_40 : decode cX6_firstFault 40 = .ok (.iload 4, 2) := by decide +kernel
theorem dX6_firstFault_42 : decode cX6_firstFault 42 = .ok (.aload_n 0, 1) := by decide +kernel
theorem dX6_firstFault_43 : decode cX6_firstFault 43 = .ok (.getfield 15, 3) := by decide +kernel
theorem dX6_firstFault_46 : decode cX6_firstFault 46 = .ok (.if_icmp .ge 37, 3) := by decide +kernel
theorem dX6_firstFault_49 : decode cX6_firstFault 49 = .ok (.aload_n 0, 1) := by decide +kernel
theorem dX6_firstFault_50 : decode cX6_firstFault 50 = .ok (.iload 4, 2) := by decide +kernel
theorem dX6_firstFault_52 : decode cX6_firstFault 52 = .ok (.iload_n 2, 1) := by decide +kernel
theorem dX6_firstFault_53 : decode cX6_firstFault 53 = .ok (.iload_n 3, 1) := by decide +kernel
theorem dX6_firstFault_54 : decode cX6_firstFault 54 = .ok (.iload_n 1, 1) := by decide +kernel
theorem dX6_firstFault_55 : decode cX6_firstFault 55 = .ok (.invokevirtual 52, 3) := by decide +kernel
theorem dX6_firstFault_58 : decode cX6_firstFault 58 = .ok (.ifCond .ne 6, 3) := by decide +kernel
theorem dX6_firstFault_61 : decode cX6_firstFault 61 = .ok (.iload 4, 2) := by decide +kernel
theorem dX6_firstFault_63 : decode cX6_firstFault 63 = .ok (.ireturn, 1) := by decide +kernel
theorem dX6_firstFault_64 : decode cX6_firstFault 64 = .ok (.iinc 3 1, 3) := by decide +kernel
theorem dX6_firstFault_67 : decode cX6_firstFault 67 = .ok (.iload_n 3, 1) := by decide +kernel
theorem dX6_firstFault_68 : decode cX6_firstFault 68 = .ok (.iload_n 1, 1) := by decide +kernel
theorem dX6_firstFault_69 : decode cX6_firstFault 69 = .ok (.if_icmp .le 8, 3) := by decide +kernel
theorem dX6_firstFault_72 : decode cX6_firstFault 72 = .ok (.iconst 0, 1) := by decide +kernel
theorem dX6_firstFault_73 : decode cX6_firstFault 73 = .ok (.istore_n 3, 1) := by decide +kernel
theorem dX6_firstFault_74 : decode cX6_firstFault 74 = .ok (.iinc 2 1, 3) := by decide +kernel
theorem dX6_firstFault_77 : decode cX6_firstFault 77 = .ok (.iinc 4 1, 3) := by decide +kernel
theorem dX6_firstFault_80 : decode cX6_firstFault 80 = .ok (.goto (-40), 3) := by decide +kernel
theorem dX6_firstFault_83 : decode cX6_firstFault 83 = .ok (.aload_n 0, 1) := by decide +kernel
theorem dX6_firstFault_84 : decode cX6_firstFault 84 = .ok (.getfield 15, 3) := by decide +kernel
theorem dX6_firstFault_87 : decode cX6_firstFault 87 = .ok (.ireturn, 1) := by decide +kernel
set_option maxHeartbeats 4000000 in
set_option maxRecDepth 100000 in
theorem c_X6_firstFault (l : Launch) (D : va_G) (cy : ClassId) (tx txc : Nat) (tx_size : Int32) (txc_a : Nat → Int32)  (g_0 : 0 ≤ tx_size.toInt ∧ tx_size.toInt ≤ 44) : wk_Ci l yX6_firstFault cX6_firstFault 5 (some .int) { frames := 3, cells := 0, slots := 0, locals := 67 } D cy [.ref tx] [(tx, .inr (6, [.ref txc, .int tx_size])), (txc, .inl (cy, 44, .inl txc_a))] 0 0 (fun (r : Int32) (u : Unit) => r = (fn_X6_firstFault tx_size txc_a) ∧ (0 ≤ r.toInt ∧ r.toInt ≤ 44) ∧ (r.toInt ≤ tx_size.toInt)) (fun u => [(tx, .inr (6, [.ref txc, .int tx_size])), (txc, .inl (cy, 44, .inl txc_a))]) := by
  refine wk_mk2Ci (by decide) (Nat.le_of_ble_eq_true rfl) ?_
  intro p e s m args below meth c A ls Q B hA hK hP hD hS hl hret
  obtain ⟨hx, hb, hr, hlocks, hml, hown, htb, hin⟩ := B
  have hl : lv_has ls 5 [(0, .ref tx)] := hl
  have hF : (fn_X6_firstFault tx_size txc_a) = (fn_X6_firstFault tx_size txc_a) := rfl
  conv at hF => rhs; unfold fn_X6_firstFault
  refine lv_aload_n hx hb dX6_firstFault_0 rfl (lv_at hl 0 rfl) ?_
  refine wk_iV (As := []) (rest := []) (wc := [(tx, .inr (6, [.ref txc, .int tx_size])), (txc, .inl (cy, 44, .inl txc_a))]) (wr := []) (n := 0) ⟨hx, hb, hml, hown, htb⟩ (c_X6_signsOfKey l D cy tx txc tx_size txc_a  (show 0 ≤ tx_size.toInt ∧ tx_size.toInt ≤ 44 from by omega)) tw_310 tw_307 tw_309 tw_0 tw_65 rfl rfl (by decide +kernel) ⟨Nat.le_of_ble_eq_true rfl, Nat.le_of_ble_eq_true rfl⟩ hK hP hD hS hA [0, 1] [] rfl rfl rfl rfl (by decide) 0 (ci := 6) rfl rfl rfl hl.1 rfl (Nat.le_of_ble_eq_true rfl) dX6_firstFault_1 ⟨Nat.le_of_ble_eq_true rfl, Nat.le_of_ble_eq_true rfl⟩ (fun r_1 u_2 H locs hw_3 hP hD hS => ?_)
  refine W.widen (k := 0) (n := 0) (by decide) (by decide) ?_
  obtain ⟨hw_3, k_4⟩ := hw_3
  have hw_3 : r_1 = (fn_X6_signsOfKey tx_size txc_a) := hw_3
  subst hw_3
  have k_4 : ((-1) ≤ (fn_X6_signsOfKey tx_size txc_a).toInt ∧ (fn_X6_signsOfKey tx_size txc_a).toInt ≤ 4) := k_4
  have hP : va_P D classes [(tx, .inr (6, [.ref txc, .int tx_size])), (txc, .inl (cy, 44, .inl txc_a))] H := hP
  have hD : va_D A [(tx, .inr (6, [.ref txc, .int tx_size])), (txc, .inl (cy, 44, .inl txc_a))] := hD
  refine lv_istore_n (lv' := [(1, .int (fn_X6_signsOfKey tx_size txc_a)), (0, .ref tx)]) hx hb dX6_firstFault_4 rfl hl (by decide) rfl (fun ls hl => ?_)
  refine lv_iload_n hx hb dX6_firstFault_5 rfl (lv_at hl 0 rfl) ?_
  refine lv_iconst (v := (-1)) hx hb dX6_firstFault_6 (by decide) ?_
  refine lv_icmp_ne (tgt := 12) hx hb dX6_firstFault_7 (by decide) (fun c_5 => ?_) (fun c_5 => ?_)
  · have k_5 : ¬ (fn_X6_signsOfKey tx_size txc_a).toInt = (-1) := wk_neq c_5
    replace hF := hF.trans (if_neg c_5)
    refine lv_aload_n hx hb dX6_firstFault_12 rfl (lv_at hl 1 rfl) ?_
    refine va_get (D := D) (ci := 6) (v := .int tx_size) (C := RX6) (T := TX6) (N := 2) hx hb htb inX6 hown hK hP 0 rfl rfl 1 (by decide) (htb _ tw_94) (fun _ h9 => h9) rfl dX6_firstFault_13 ?_
    refine lv_iconst (v := 1) hx hb dX6_firstFault_16 (by decide) ?_
    refine lv_icmp_le (tgt := 33) hx hb dX6_firstFault_17 (by decide) (fun c_6 => ?_) (fun c_6 => ?_)
    · have k_6 : tx_size.toInt ≤ 1 := wk_le c_6
      replace hF := hF.trans (if_pos c_6)
      refine lv_iconst (v := 0) hx hb dX6_firstFault_33 (by decide) ?_
      refine lv_istore_n (lv' := [(2, .int 0), (1, .int (fn_X6_signsOfKey tx_size txc_a)), (0, .ref tx)]) hx hb dX6_firstFault_34 rfl hl (by decide) rfl (fun ls hl => ?_)
      refine lv_iconst (v := 0) hx hb dX6_firstFault_35 (by decide) ?_
      refine lv_istore_n (lv' := [(3, .int 0), (2, .int 0), (1, .int (fn_X6_signsOfKey tx_size txc_a)), (0, .ref tx)]) hx hb dX6_firstFault_36 rfl hl (by decide) rfl (fun ls hl => ?_)
      refine lv_iconst (v := 2) hx hb dX6_firstFault_37 (by decide) ?_
      refine lv_istore (lv' := [(4, .int 2), (3, .int 0), (2, .int 0), (1, .int (fn_X6_signsOfKey tx_size txc_a)), (0, .ref tx)]) hx hb dX6_firstFault_38 hl (by decide) rfl (fun ls hl => ?_)
      have hlp_40 : ∀ (fu_40 : Nat) (x2_40 : Int32) (x3_40 : Int32) (x4_40 : Int32) (H : Heap) (locs : List Loc) (ls : Array Slot), (2 ≤ x4_40.toInt ∧ x4_40.toInt ≤ 44) → 44 - x4_40.toInt < (fu_40 : Int) → ((fn_X6_firstFault tx_size txc_a) = lp_X6_firstFault_40 tx_size txc_a fu_40 x2_40 x3_40 x4_40) → va_P D classes [(tx, .inr (6, [.ref txc, .int tx_size])), (txc, .inl (cy, 44, .inl txc_a))] H → va_D A [(tx, .inr (6, [.ref txc, .int tx_size])), (txc, .inl (cy, 44, .inl txc_a))] → va_S A s.heap H locs → lv_has ls 5 [(4, .int x4_40), (3, .int x3_40), (2, .int x2_40), (1, .int (fn_X6_signsOfKey tx_size txc_a)), (0, .ref tx)] → W p l e { frames := 3, cells := 0, slots := 0, locals := 67 } s m args below meth c H locs 0 0 Q (F0 m 40 ls []) := by
        intro fu_40
        induction fu_40 with
        | zero =>
          intro x2_40 x3_40 x4_40 H locs ls hi_40_0 hm hF hP hD hS hl
          exfalso; omega
        | succ fu_40 ih_40 =>
          intro x2_40 x3_40 x4_40 H locs ls hi_40_0 hm hF hP hD hS hl
          rw [lp_X6_firstFault_40] at hF
          refine lv_iload hx hb dX6_firstFault_40 (lv_at hl 0 rfl) ?_
          refine lv_aload_n hx hb dX6_firstFault_42 rfl (lv_at hl 4 rfl) ?_
          refine va_get (D := D) (ci := 6) (v := .int tx_size) (C := RX6) (T := TX6) (N := 2) hx hb htb inX6 hown hK hP 0 rfl rfl 1 (by decide) (htb _ tw_94) (fun _ h9 => h9) rfl dX6_firstFault_43 ?_
          refine lv_icmp_ge (tgt := 83) hx hb dX6_firstFault_46 (by decide) (fun c_7 => ?_) (fun c_7 => ?_)
          · have k_7 : tx_size.toInt ≤ x4_40.toInt := wk_le c_7
            replace hF := hF.trans (if_pos c_7)
            refine lv_aload_n hx hb dX6_firstFault_83 rfl (lv_at hl 4 rfl) ?_
            refine va_get (D := D) (ci := 6) (v := .int tx_size) (C := RX6) (T := TX6) (N := 2) hx hb htb inX6 hown hK hP 0 rfl rfl 1 (by decide) (htb _ tw_94) (fun _ h9 => h9) rfl dX6_firstFault_84 ?_
            refine W.widen (k := 0) (n := 0) (by decide) (by decide) ?_
            exact hret tx_size () _ _ _ 87 (wk_sub9 (is := [0, 1]) hP rfl) (hD.sub [0, 1] rfl rfl) hS dX6_firstFault_87 ⟨hF.symm, (show (0 ≤ tx_size.toInt ∧ tx_size.toInt ≤ 44) from by omega), (show (tx_size.toInt ≤ tx_size.toInt) from by omega)⟩
          · have k_7 : ¬ tx_size.toInt ≤ x4_40.toInt := wk_nle c_7
            replace hF := hF.trans (if_neg c_7)
            refine lv_aload_n hx hb dX6_firstFault_49 rfl (lv_at hl 4 rfl) ?_
            refine lv_iload hx hb dX6_firstFault_50 (lv_at hl 0 rfl) ?_
            refine lv_iload_n hx hb dX6_firstFault_52 rfl (lv_at hl 2 rfl) ?_
            refine lv_iload_n hx hb dX6_firstFault_53 rfl (lv_at hl 1 rfl) ?_
            refine lv_iload_n hx hb dX6_firstFault_54 rfl (lv_at hl 3 rfl) ?_
            refine wk_iV (As := [.int x4_40, .int x2_40, .int x3_40, .int (fn_X6_signsOfKey tx_size txc_a)]) (rest := []) (wc := [(tx, .inr (6, [.ref txc, .int tx_size])), (txc, .inl (cy, 44, .inl txc_a))]) (wr := []) (n := 4) ⟨hx, hb, hml, hown, htb⟩ (c_X6_fits l D cy tx txc tx_size txc_a x4_40 x2_40 x3_40 (fn_X6_signsOfKey tx_size txc_a) (show 0 ≤ tx_size.toInt ∧ tx_size.toInt ≤ 44 from by omega) (show 0 ≤ x4_40.toInt ∧ x4_40.toInt ≤ 43 from by omega)) tw_314 tw_311 tw_313 tw_1 tw_65 rfl rfl (by decide +kernel) ⟨Nat.le_of_ble_eq_true rfl, Nat.le_of_ble_eq_true rfl⟩ hK hP hD hS hA [0, 1] [] rfl rfl rfl rfl (by decide) 0 (ci := 6) rfl rfl rfl hl.1 rfl (Nat.le_of_ble_eq_true rfl) dX6_firstFault_55 ⟨Nat.le_of_ble_eq_true rfl, Nat.le_of_ble_eq_true rfl⟩ (fun r_8 u_9 H locs hw_10 hP hD hS => ?_)
            refine W.widen (k := 0) (n := 0) (by decide) (by decide) ?_
            obtain ⟨hw_10, k_11⟩ := hw_10
            have hw_10 : r_8 = (fn_X6_fits tx_size txc_a x4_40 x2_40 x3_40 (fn_X6_signsOfKey tx_size txc_a)) := hw_10
            subst hw_10
            have k_11 : ((fn_X6_fits tx_size txc_a x4_40 x2_40 x3_40 (fn_X6_signsOfKey tx_size txc_a)) = 0 ∨ (fn_X6_fits tx_size txc_a x4_40 x2_40 x3_40 (fn_X6_signsOfKey tx_size txc_a)) = 1) := k_11
            have k_12 : 0 ≤ (fn_X6_fits tx_size txc_a x4_40 x2_40 x3_40 (fn_X6_signsOfKey tx_size txc_a)).toInt ∧ (fn_X6_fits tx_size txc_a x4_40 x2_40 x3_40 (fn_X6_signsOfKey tx_size txc_a)).toInt ≤ 1 := wk_b01 (by assumption)
            have hP : va_P D classes [(tx, .inr (6, [.ref txc, .int tx_size])), (txc, .inl (cy, 44, .inl txc_a))] H := hP
            have hD : va_D A [(tx, .inr (6, [.ref txc, .int tx_size])), (txc, .inl (cy, 44, .inl txc_a))] := hD
            refine lv_if_ne (tgt := 64) hx hb dX6_firstFault_58 (by decide) (fun c_13 => ?_) (fun c_13 => ?_)
            · have k_13 : ¬ (fn_X6_fits tx_size txc_a x4_40 x2_40 x3_40 (fn_X6_signsOfKey tx_size txc_a)).toInt = 0 := wk_neq c_13
              replace hF := hF.trans (if_neg c_13)
              refine lv_iinc (v := (x3_40 + 1)) (lv' := [(3, .int (x3_40 + 1)), (4, .int x4_40), (2, .int x2_40), (1, .int (fn_X6_signsOfKey tx_size txc_a)), (0, .ref tx)]) hx hb dX6_firstFault_64 hl (k := 1) rfl rfl (by decide) rfl (fun ls hl => ?_)
              refine lv_iload_n hx hb dX6_firstFault_67 rfl (lv_at hl 0 rfl) ?_
              refine lv_iload_n hx hb dX6_firstFault_68 rfl (lv_at hl 3 rfl) ?_
              refine lv_icmp_le (tgt := 77) hx hb dX6_firstFault_69 (by decide) (fun c_14 => ?_) (fun c_14 => ?_)
              · have k_14 : (x3_40 + 1).toInt ≤ (fn_X6_signsOfKey tx_size txc_a).toInt := wk_le c_14
                replace hF := hF.trans (if_pos c_14)
                refine lv_iinc (v := (x4_40 + 1)) (lv' := [(4, .int (x4_40 + 1)), (3, .int (x3_40 + 1)), (2, .int x2_40), (1, .int (fn_X6_signsOfKey tx_size txc_a)), (0, .ref tx)]) hx hb dX6_firstFault_77 hl (k := 1) rfl rfl (by decide) rfl (fun ls hl => ?_)
                have k_15 : (x4_40 + 1).toInt = x4_40.toInt + 1 := wk_add x4_40.toInt 1 rfl rfl (by omega) (by omega)
                refine lv_goto (tgt := 40) hx hb dX6_firstFault_80 (by decide) ?_
                exact ih_40 x2_40 (x3_40 + 1) (x4_40 + 1) _ _ _ (show 2 ≤ (x4_40 + 1).toInt ∧ (x4_40 + 1).toInt ≤ 44 from by omega) (show 44 - (x4_40 + 1).toInt < ((fu_40 : Nat) : Int) from by omega) hF hP hD hS (lv_sub hl [0, 1, 2, 3, 4] rfl)
              · have k_14 : ¬ (x3_40 + 1).toInt ≤ (fn_X6_signsOfKey tx_size txc_a).toInt := wk_nle c_14
                replace hF := hF.trans (if_neg c_14)
                refine lv_iconst (v := 0) hx hb dX6_firstFault_72 (by decide) ?_
                refine lv_istore_n (lv' := [(3, .int 0), (4, .int x4_40), (2, .int x2_40), (1, .int (fn_X6_signsOfKey tx_size txc_a)), (0, .ref tx)]) hx hb dX6_firstFault_73 rfl hl (by decide) rfl (fun ls hl => ?_)
                refine lv_iinc (v := (x2_40 + 1)) (lv' := [(2, .int (x2_40 + 1)), (3, .int 0), (4, .int x4_40), (1, .int (fn_X6_signsOfKey tx_size txc_a)), (0, .ref tx)]) hx hb dX6_firstFault_74 hl (k := 2) rfl rfl (by decide) rfl (fun ls hl => ?_)
                refine lv_iinc (v := (x4_40 + 1)) (lv' := [(4, .int (x4_40 + 1)), (2, .int (x2_40 + 1)), (3, .int 0), (1, .int (fn_X6_signsOfKey tx_size txc_a)), (0, .ref tx)]) hx hb dX6_firstFault_77 hl (k := 2) rfl rfl (by decide) rfl (fun ls hl => ?_)
                have k_16 : (x4_40 + 1).toInt = x4_40.toInt + 1 := wk_add x4_40.toInt 1 rfl rfl (by omega) (by omega)
                refine lv_goto (tgt := 40) hx hb dX6_firstFault_80 (by decide) ?_
                exact ih_40 (x2_40 + 1) 0 (x4_40 + 1) _ _ _ (show 2 ≤ (x4_40 + 1).toInt ∧ (x4_40 + 1).toInt ≤ 44 from by omega) (show 44 - (x4_40 + 1).toInt < ((fu_40 : Nat) : Int) from by omega) hF hP hD hS (lv_sub hl [0, 2, 1, 3, 4] rfl)
            · have k_13 : (fn_X6_fits tx_size txc_a x4_40 x2_40 x3_40 (fn_X6_signsOfKey tx_size txc_a)).toInt = 0 := wk_eq c_13
              replace hF := hF.trans (if_pos c_13)
              refine lv_iload hx hb dX6_firstFault_61 (lv_at hl 0 rfl) ?_
              refine W.widen (k := 0) (n := 0) (by decide) (by decide) ?_
              exact hret x4_40 () _ _ _ 63 (wk_sub9 (is := [0, 1]) hP rfl) (hD.sub [0, 1] rfl rfl) hS dX6_firstFault_63 ⟨hF.symm, (show (0 ≤ x4_40.toInt ∧ x4_40.toInt ≤ 44) from by omega), (show (x4_40.toInt ≤ tx_size.toInt) from by omega)⟩
      exact hlp_40 50 0 0 2 _ _ _ (show 2 ≤ 2 ∧ 2 ≤ 44 from by omega) (show 44 - 2 < ((50 : Nat) : Int) from by omega) hF hP hD hS (lv_sub hl [0, 1, 2, 3, 4] rfl)
    · have k_6 : ¬ tx_size.toInt ≤ 1 := wk_nle c_6
      replace hF := hF.trans (if_neg c_6)
      refine lv_aload_n hx hb dX6_firstFault_20 rfl (lv_at hl 1 rfl) ?_
      refine va_get (D := D) (ci := 6) (v := .ref txc) (C := RX6) (T := TX6) (N := 2) hx hb htb inX6 hown hK hP 0 rfl rfl 0 (by decide) (htb _ tw_92) (fun _ h9 => h9) rfl dX6_firstFault_21 ?_
      refine lv_iconst (v := 1) hx hb dX6_firstFault_24 (by decide) ?_
      refine va_iald hx hb hK hP 1 0 rfl rfl (show vp_in 1 44 from vp_in_iff.mpr (show 0 ≤ 1 ∧ 1 < ((44 : Nat) : Int) from by omega)) dX6_firstFault_25 ?_
      refine lv_bipush (v := 59) hx hb dX6_firstFault_26 (by decide) ?_
      refine lv_icmp_eq (tgt := 33) hx hb dX6_firstFault_28 (by decide) (fun c_17 => ?_) (fun c_17 => ?_)
      · have k_17 : (txc_a (1 : Int32).toNatClampNeg).toInt = 59 := wk_eq c_17
        replace hF := hF.trans (if_pos c_17)
        refine lv_iconst (v := 0) hx hb dX6_firstFault_33 (by decide) ?_
        refine lv_istore_n (lv' := [(2, .int 0), (1, .int (fn_X6_signsOfKey tx_size txc_a)), (0, .ref tx)]) hx hb dX6_firstFault_34 rfl hl (by decide) rfl (fun ls hl => ?_)
        refine lv_iconst (v := 0) hx hb dX6_firstFault_35 (by decide) ?_
        refine lv_istore_n (lv' := [(3, .int 0), (2, .int 0), (1, .int (fn_X6_signsOfKey tx_size txc_a)), (0, .ref tx)]) hx hb dX6_firstFault_36 rfl hl (by decide) rfl (fun ls hl => ?_)
        refine lv_iconst (v := 2) hx hb dX6_firstFault_37 (by decide) ?_
        refine lv_istore (lv' := [(4, .int 2), (3, .int 0), (2, .int 0), (1, .int (fn_X6_signsOfKey tx_size txc_a)), (0, .ref tx)]) hx hb dX6_firstFault_38 hl (by decide) rfl (fun ls hl => ?_)
        have hlp_40 : ∀ (fu_40 : Nat) (x2_40 : Int32) (x3_40 : Int32) (x4_40 : Int32) (H : Heap) (locs : List Loc) (ls : Array Slot), (2 ≤ x4_40.toInt ∧ x4_40.toInt ≤ 44) → 44 - x4_40.toInt < (fu_40 : Int) → ((fn_X6_firstFault tx_size txc_a) = lp_X6_firstFault_40 tx_size txc_a fu_40 x2_40 x3_40 x4_40) → va_P D classes [(tx, .inr (6, [.ref txc, .int tx_size])), (txc, .inl (cy, 44, .inl txc_a))] H → va_D A [(tx, .inr (6, [.ref txc, .int tx_size])), (txc, .inl (cy, 44, .inl txc_a))] → va_S A s.heap H locs → lv_has ls 5 [(4, .int x4_40), (3, .int x3_40), (2, .int x2_40), (1, .int (fn_X6_signsOfKey tx_size txc_a)), (0, .ref tx)] → W p l e { frames := 3, cells := 0, slots := 0, locals := 67 } s m args below meth c H locs 0 0 Q (F0 m 40 ls []) := by
          intro fu_40
          induction fu_40 with
          | zero =>
            intro x2_40 x3_40 x4_40 H locs ls hi_40_0 hm hF hP hD hS hl
            exfalso; omega
          | succ fu_40 ih_40 =>
            intro x2_40 x3_40 x4_40 H locs ls hi_40_0 hm hF hP hD hS hl
            rw [lp_X6_firstFault_40] at hF
            refine lv_iload hx hb dX6_firstFault_40 (lv_at hl 0 rfl) ?_
            refine lv_aload_n hx hb dX6_firstFault_42 rfl (lv_at hl 4 rfl) ?_
            refine va_get (D := D) (ci := 6) (v := .int tx_size) (C := RX6) (T := TX6) (N := 2) hx hb htb inX6 hown hK hP 0 rfl rfl 1 (by decide) (htb _ tw_94) (fun _ h9 => h9) rfl dX6_firstFault_43 ?_
            refine lv_icmp_ge (tgt := 83) hx hb dX6_firstFault_46 (by decide) (fun c_18 => ?_) (fun c_18 => ?_)
            · have k_18 : tx_size.toInt ≤ x4_40.toInt := wk_le c_18
              replace hF := hF.trans (if_pos c_18)
              refine lv_aload_n hx hb dX6_firstFault_83 rfl (lv_at hl 4 rfl) ?_
              refine va_get (D := D) (ci := 6) (v := .int tx_size) (C := RX6) (T := TX6) (N := 2) hx hb htb inX6 hown hK hP 0 rfl rfl 1 (by decide) (htb _ tw_94) (fun _ h9 => h9) rfl dX6_firstFault_84 ?_
              refine W.widen (k := 0) (n := 0) (by decide) (by decide) ?_
              exact hret tx_size () _ _ _ 87 (wk_sub9 (is := [0, 1]) hP rfl) (hD.sub [0, 1] rfl rfl) hS dX6_firstFault_87 ⟨hF.symm, (show (0 ≤ tx_size.toInt ∧ tx_size.toInt ≤ 44) from by omega), (show (tx_size.toInt ≤ tx_size.toInt) from by omega)⟩
            · have k_18 : ¬ tx_size.toInt ≤ x4_40.toInt := wk_nle c_18
              replace hF := hF.trans (if_neg c_18)
              refine lv_aload_n hx hb dX6_firstFault_49 rfl (lv_at hl 4 rfl) ?_
              refine lv_iload hx hb dX6_firstFault_50 (lv_at hl 0 rfl) ?_
              refine lv_iload_n hx hb dX6_firstFault_52 rfl (lv_at hl 2 rfl) ?_
              refine lv_iload_n hx hb dX6_firstFault_53 rfl (lv_at hl 1 rfl) ?_
              refine lv_iload_n hx hb dX6_firstFault_54 rfl (lv_at hl 3 rfl) ?_
              refine wk_iV (As := [.int x4_40, .int x2_40, .int x3_40, .int (fn_X6_signsOfKey tx_size txc_a)]) (rest := []) (wc := [(tx, .inr (6, [.ref txc, .int tx_size])), (txc, .inl (cy, 44, .inl txc_a))]) (wr := []) (n := 4) ⟨hx, hb, hml, hown, htb⟩ (c_X6_fits l D cy tx txc tx_size txc_a x4_40 x2_40 x3_40 (fn_X6_signsOfKey tx_size txc_a) (show 0 ≤ tx_size.toInt ∧ tx_size.toInt ≤ 44 from by omega) (show 0 ≤ x4_40.toInt ∧ x4_40.toInt ≤ 43 from by omega)) tw_314 tw_311 tw_313 tw_1 tw_65 rfl rfl (by decide +kernel) ⟨Nat.le_of_ble_eq_true rfl, Nat.le_of_ble_eq_true rfl⟩ hK hP hD hS hA [0, 1] [] rfl rfl rfl rfl (by decide) 0 (ci := 6) rfl rfl rfl hl.1 rfl (Nat.le_of_ble_eq_true rfl) dX6_firstFault_55 ⟨Nat.le_of_ble_eq_true rfl, Nat.le_of_ble_eq_true rfl⟩ (fun r_19 u_20 H locs hw_21 hP hD hS => ?_)
              refine W.widen (k := 0) (n := 0) (by decide) (by decide) ?_
              obtain ⟨hw_21, k_22⟩ := hw_21
              have hw_21 : r_19 = (fn_X6_fits tx_size txc_a x4_40 x2_40 x3_40 (fn_X6_signsOfKey tx_size txc_a)) := hw_21
              subst hw_21
              have k_22 : ((fn_X6_fits tx_size txc_a x4_40 x2_40 x3_40 (fn_X6_signsOfKey tx_size txc_a)) = 0 ∨ (fn_X6_fits tx_size txc_a x4_40 x2_40 x3_40 (fn_X6_signsOfKey tx_size txc_a)) = 1) := k_22
              have k_23 : 0 ≤ (fn_X6_fits tx_size txc_a x4_40 x2_40 x3_40 (fn_X6_signsOfKey tx_size txc_a)).toInt ∧ (fn_X6_fits tx_size txc_a x4_40 x2_40 x3_40 (fn_X6_signsOfKey tx_size txc_a)).toInt ≤ 1 := wk_b01 (by assumption)
              have hP : va_P D classes [(tx, .inr (6, [.ref txc, .int tx_size])), (txc, .inl (cy, 44, .inl txc_a))] H := hP
              have hD : va_D A [(tx, .inr (6, [.ref txc, .int tx_size])), (txc, .inl (cy, 44, .inl txc_a))] := hD
              refine lv_if_ne (tgt := 64) hx hb dX6_firstFault_58 (by decide) (fun c_24 => ?_) (fun c_24 => ?_)
              · have k_24 : ¬ (fn_X6_fits tx_size txc_a x4_40 x2_40 x3_40 (fn_X6_signsOfKey tx_size txc_a)).toInt = 0 := wk_neq c_24
                replace hF := hF.trans (if_neg c_24)
                refine lv_iinc (v := (x3_40 + 1)) (lv' := [(3, .int (x3_40 + 1)), (4, .int x4_40), (2, .int x2_40), (1, .int (fn_X6_signsOfKey tx_size txc_a)), (0, .ref tx)]) hx hb dX6_firstFault_64 hl (k := 1) rfl rfl (by decide) rfl (fun ls hl => ?_)
                refine lv_iload_n hx hb dX6_firstFault_67 rfl (lv_at hl 0 rfl) ?_
                refine lv_iload_n hx hb dX6_firstFault_68 rfl (lv_at hl 3 rfl) ?_
                refine lv_icmp_le (tgt := 77) hx hb dX6_firstFault_69 (by decide) (fun c_25 => ?_) (fun c_25 => ?_)
                · have k_25 : (x3_40 + 1).toInt ≤ (fn_X6_signsOfKey tx_size txc_a).toInt := wk_le c_25
                  replace hF := hF.trans (if_pos c_25)
                  refine lv_iinc (v := (x4_40 + 1)) (lv' := [(4, .int (x4_40 + 1)), (3, .int (x3_40 + 1)), (2, .int x2_40), (1, .int (fn_X6_signsOfKey tx_size txc_a)), (0, .ref tx)]) hx hb dX6_firstFault_77 hl (k := 1) rfl rfl (by decide) rfl (fun ls hl => ?_)
                  have k_26 : (x4_40 + 1).toInt = x4_40.toInt + 1 := wk_add x4_40.toInt 1 rfl rfl (by omega) (by omega)
                  refine lv_goto (tgt := 40) hx hb dX6_firstFault_80 (by decide) ?_
                  exact ih_40 x2_40 (x3_40 + 1) (x4_40 + 1) _ _ _ (show 2 ≤ (x4_40 + 1).toInt ∧ (x4_40 + 1).toInt ≤ 44 from by omega) (show 44 - (x4_40 + 1).toInt < ((fu_40 : Nat) : Int) from by omega) hF hP hD hS (lv_sub hl [0, 1, 2, 3, 4] rfl)
                · have k_25 : ¬ (x3_40 + 1).toInt ≤ (fn_X6_signsOfKey tx_size txc_a).toInt := wk_nle c_25
                  replace hF := hF.trans (if_neg c_25)
                  refine lv_iconst (v := 0) hx hb dX6_firstFault_72 (by decide) ?_
                  refine lv_istore_n (lv' := [(3, .int 0), (4, .int x4_40), (2, .int x2_40), (1, .int (fn_X6_signsOfKey tx_size txc_a)), (0, .ref tx)]) hx hb dX6_firstFault_73 rfl hl (by decide) rfl (fun ls hl => ?_)
                  refine lv_iinc (v := (x2_40 + 1)) (lv' := [(2, .int (x2_40 + 1)), (3, .int 0), (4, .int x4_40), (1, .int (fn_X6_signsOfKey tx_size txc_a)), (0, .ref tx)]) hx hb dX6_firstFault_74 hl (k := 2) rfl rfl (by decide) rfl (fun ls hl => ?_)
                  refine lv_iinc (v := (x4_40 + 1)) (lv' := [(4, .int (x4_40 + 1)), (2, .int (x2_40 + 1)), (3, .int 0), (1, .int (fn_X6_signsOfKey tx_size txc_a)), (0, .ref tx)]) hx hb dX6_firstFault_77 hl (k := 2) rfl rfl (by decide) rfl (fun ls hl => ?_)
                  have k_27 : (x4_40 + 1).toInt = x4_40.toInt + 1 := wk_add x4_40.toInt 1 rfl rfl (by omega) (by omega)
                  refine lv_goto (tgt := 40) hx hb dX6_firstFault_80 (by decide) ?_
                  exact ih_40 (x2_40 + 1) 0 (x4_40 + 1) _ _ _ (show 2 ≤ (x4_40 + 1).toInt ∧ (x4_40 + 1).toInt ≤ 44 from by omega) (show 44 - (x4_40 + 1).toInt < ((fu_40 : Nat) : Int) from by omega) hF hP hD hS (lv_sub hl [0, 2, 1, 3, 4] rfl)
              · have k_24 : (fn_X6_fits tx_size txc_a x4_40 x2_40 x3_40 (fn_X6_signsOfKey tx_size txc_a)).toInt = 0 := wk_eq c_24
                replace hF := hF.trans (if_pos c_24)
                refine lv_iload hx hb dX6_firstFault_61 (lv_at hl 0 rfl) ?_
                refine W.widen (k := 0) (n := 0) (by decide) (by decide) ?_
                exact hret x4_40 () _ _ _ 63 (wk_sub9 (is := [0, 1]) hP rfl) (hD.sub [0, 1] rfl rfl) hS dX6_firstFault_63 ⟨hF.symm, (show (0 ≤ x4_40.toInt ∧ x4_40.toInt ≤ 44) from by omega), (show (x4_40.toInt ≤ tx_size.toInt) from by omega)⟩
        exact hlp_40 50 0 0 2 _ _ _ (show 2 ≤ 2 ∧ 2 ≤ 44 from by omega) (show 44 - 2 < ((50 : Nat) : Int) from by omega) hF hP hD hS (lv_sub hl [0, 1, 2, 3, 4] rfl)
      · have k_17 : ¬ (txc_a (1 : Int32).toNatClampNeg).toInt = 59 := wk_neq c_17
        replace hF := hF.trans (if_neg c_17)
        refine lv_iconst (v := 1) hx hb dX6_firstFault_31 (by decide) ?_
        refine W.widen (k := 0) (n := 0) (by decide) (by decide) ?_
        exact hret 1 () _ _ _ 32 (wk_sub9 (is := [0, 1]) hP rfl) (hD.sub [0, 1] rfl rfl) hS dX6_firstFault_32 ⟨hF.symm, (show (0 ≤ 1 ∧ 1 ≤ 44) from by omega), (show (1 ≤ tx_size.toInt) from by omega)⟩
  · have k_5 : (fn_X6_signsOfKey tx_size txc_a).toInt = (-1) := wk_eq c_5
    replace hF := hF.trans (if_pos c_5)
    refine lv_iconst (v := 0) hx hb dX6_firstFault_10 (by decide) ?_
    refine W.widen (k := 0) (n := 0) (by decide) (by decide) ?_
    exact hret 0 () _ _ _ 11 (wk_sub9 (is := [0, 1]) hP rfl) (hD.sub [0, 1] rfl rfl) hS dX6_firstFault_11 ⟨hF.symm, (show (0 ≤ 0 ∧ 0 ≤ 44) from by omega), (show (0 ≤ tx_size.toInt) from by omega)⟩
def lp_X6_keysTold_25 (tx_size : Int32) (txc_a : Nat → Int32) : Nat → Int32 → Int32
  | 0, _ => default
  | fu_25 + 1, x2_25 => (if (8 : Int32) < x2_25 then (-1) else (if tx_size = (1 + (x2_25 * ((fn_X6_signsOfKey tx_size txc_a) + 1))) then x2_25 else (lp_X6_keysTold_25 tx_size txc_a fu_25 (x2_25 + 1))))
termination_by n => n
def fn_X6_keysTold (tx_size : Int32) (txc_a : Nat → Int32) : Int32 := (if (fn_X6_signsOfKey tx_size txc_a) = (-1) then (-1) else (if tx_size ≤ (fn_X6_firstFault tx_size txc_a) then (lp_X6_keysTold_25 tx_size txc_a 10 2) else (-1)))
theorem dX6_keysTold_0 : decode cX6_keysTold 0 = .ok (.aload_n 0, 1) := by decide +kernel
theorem dX6_keysTold_1 : decode cX6_keysTold 1 = .ok (.invokevirtual 49, 3) := by decide +kernel
theorem dX6_keysTold_4 : decode cX6_keysTold 4 = .ok (.istore_n 1, 1) := by decide +kernel
theorem dX6_keysTold_5 : decode cX6_keysTold 5 = .ok (.iload_n 1, 1) := by decide +kernel
theorem dX6_keysTold_6 : decode cX6_keysTold 6 = .ok (.iconst (-1), 1) := by decide +kernel
theorem dX6_keysTold_7 : decode cX6_keysTold 7 = .ok (.if_icmp .eq 14, 3) := by decide +kernel
theorem dX6_keysTold_10 : decode cX6_keysTold 10 = .ok (.aload_n 0, 1) := by decide +kernel
theorem dX6_keysTold_11 : decode cX6_keysTold 11 = .ok (.invokevirtual 56, 3) := by decide +kernel
theorem dX6_keysTold_14 : decode cX6_keysTold 14 = .ok (.aload_n 0, 1) := by decide +kernel
theorem dX6_keysTold_15 : decode cX6_keysTold 15 = .ok (.getfield 15, 3) := by decide +kernel
theorem dX6_keysTold_18 : decode cX6_keysTold 18 = .ok (.if_icmp .ge 5, 3) := by decide +kernel
theorem dX6_keysTold_21 : decode cX6_keysTold 21 = .ok (.iconst (-1), 1) := by decide +kernel
theorem dX6_keysTold_22 : decode cX6_keysTold 22 = .ok (.ireturn, 1) := by decide +kernel
theorem dX6_keysTold_23 : decode cX6_keysTold 23 = .ok (.iconst 2, 1) := by decide +kernel
theorem dX6_keysTold_24 : decode cX6_keysTold 24 = .ok (.istore_n 2, 1) := by decide +kernel
theorem dX6_keysTold_25 : decode cX6_keysTold 25 = .ok (.iload_n 2, 1) := by decide +kernel
theorem dX6_keysTold_26 : decode cX6_keysTold 26 = .ok (.bipush 8, 2) := by decide +kernel
theorem dX6_keysTold_28 : decode cX6_keysTold 28 = .ok (.if_icmp .gt 25, 3) := by decide +kernel
theorem dX6_keysTold_31 : decode cX6_keysTold 31 = .ok (.aload_n 0, 1) := by decide +kernel
theorem dX6_keysTold_32 : decode cX6_keysTold 32 = .ok (.getfield 15, 3) := by decide +kernel
theorem dX6_keysTold_35 : decode cX6_keysTold 35 = .ok (.iconst 1, 1) := by decide +kernel
theorem dX6_keysTold_36 : decode cX6_keysTold 36 = .ok (.iload_n 2, 1) := by decide +kernel
theorem dX6_keysTold_37 : decode cX6_keysTold 37 = .ok (.iload_n 1, 1) := by decide +kernel
theorem dX6_keysTold_38 : decode cX6_keysTold 38 = .ok (.iconst 1, 1) := by decide +kernel
theorem dX6_keysTold_39 : decode cX6_keysTold 39 = .ok (.iadd, 1) := by decide +kernel
theorem dX6_keysTold_40 : decode cX6_keysTold 40 = .ok (.imul, 1) := by decide +kernel
theorem dX6_keysTold_41 : decode cX6_keysTold 41 = .ok (.iadd, 1) := by decide +kernel
theorem dX6_keysTold_42 : decode cX6_keysTold 42 = .ok (.if_icmp .ne 5, 3) := by decide +kernel
theorem dX6_keysTold_45 : decode cX6_keysTold 45 = .ok (.iload_n 2, 1) := by decide +kernel
theorem dX6_keysTold_46 : decode cX6_keysTold 46 = .ok (.ireturn, 1) := by decide +kernel
theorem dX6_keysTold_47 : decode cX6_keysTold 47 = .ok (.iinc 2 1, 3) := by decide +kernel
theorem dX6_keysTold_50 : decode cX6_keysTold 50 = .ok (.goto (-25), 3) := by decide +kernel
theorem dX6_keysTold_53 : decode cX6_keysTold 53 = .ok (.iconst (-1), 1) := by decide +kernel
theorem dX6_keysTold_54 : decode cX6_keysTold 54 = .ok (.ireturn, 1) := by decide +kernel
set_option maxHeartbeats 4000000 in
set_option maxRecDepth 100000 in
theorem c_X6_keysTold (l : Launch) (D : va_G) (cy : ClassId) (tx txc : Nat) (tx_size : Int32) (txc_a : Nat → Int32)  (g_0 : 0 ≤ tx_size.toInt ∧ tx_size.toInt ≤ 44) : wk_Ci l yX6_keysTold cX6_keysTold 3 (some .int) { frames := 4, cells := 0, slots := 0, locals := 91 } D cy [.ref tx] [(tx, .inr (6, [.ref txc, .int tx_size])), (txc, .inl (cy, 44, .inl txc_a))] 0 0 (fun (r : Int32) (u : Unit) => r = (fn_X6_keysTold tx_size txc_a) ∧ ((-1) ≤ r.toInt ∧ r.toInt ≤ 8)) (fun u => [(tx, .inr (6, [.ref txc, .int tx_size])), (txc, .inl (cy, 44, .inl txc_a))]) := by
  refine wk_mk2Ci (by decide) (Nat.le_of_ble_eq_true rfl) ?_
  intro p e s m args below meth c A ls Q B hA hK hP hD hS hl hret
  obtain ⟨hx, hb, hr, hlocks, hml, hown, htb, hin⟩ := B
  have hl : lv_has ls 3 [(0, .ref tx)] := hl
  have hF : (fn_X6_keysTold tx_size txc_a) = (fn_X6_keysTold tx_size txc_a) := rfl
  conv at hF => rhs; unfold fn_X6_keysTold
  refine lv_aload_n hx hb dX6_keysTold_0 rfl (lv_at hl 0 rfl) ?_
  refine wk_iV (As := []) (rest := []) (wc := [(tx, .inr (6, [.ref txc, .int tx_size])), (txc, .inl (cy, 44, .inl txc_a))]) (wr := []) (n := 0) ⟨hx, hb, hml, hown, htb⟩ (c_X6_signsOfKey l D cy tx txc tx_size txc_a  (show 0 ≤ tx_size.toInt ∧ tx_size.toInt ≤ 44 from by omega)) tw_310 tw_307 tw_309 tw_0 tw_65 rfl rfl (by decide +kernel) ⟨Nat.le_of_ble_eq_true rfl, Nat.le_of_ble_eq_true rfl⟩ hK hP hD hS hA [0, 1] [] rfl rfl rfl rfl (by decide) 0 (ci := 6) rfl rfl rfl hl.1 rfl (Nat.le_of_ble_eq_true rfl) dX6_keysTold_1 ⟨Nat.le_of_ble_eq_true rfl, Nat.le_of_ble_eq_true rfl⟩ (fun r_1 u_2 H locs hw_3 hP hD hS => ?_)
  refine W.widen (k := 0) (n := 0) (by decide) (by decide) ?_
  obtain ⟨hw_3, k_4⟩ := hw_3
  have hw_3 : r_1 = (fn_X6_signsOfKey tx_size txc_a) := hw_3
  subst hw_3
  have k_4 : ((-1) ≤ (fn_X6_signsOfKey tx_size txc_a).toInt ∧ (fn_X6_signsOfKey tx_size txc_a).toInt ≤ 4) := k_4
  have hP : va_P D classes [(tx, .inr (6, [.ref txc, .int tx_size])), (txc, .inl (cy, 44, .inl txc_a))] H := hP
  have hD : va_D A [(tx, .inr (6, [.ref txc, .int tx_size])), (txc, .inl (cy, 44, .inl txc_a))] := hD
  refine lv_istore_n (lv' := [(1, .int (fn_X6_signsOfKey tx_size txc_a)), (0, .ref tx)]) hx hb dX6_keysTold_4 rfl hl (by decide) rfl (fun ls hl => ?_)
  refine lv_iload_n hx hb dX6_keysTold_5 rfl (lv_at hl 0 rfl) ?_
  refine lv_iconst (v := (-1)) hx hb dX6_keysTold_6 (by decide) ?_
  refine lv_icmp_eq (tgt := 21) hx hb dX6_keysTold_7 (by decide) (fun c_5 => ?_) (fun c_5 => ?_)
  · have k_5 : (fn_X6_signsOfKey tx_size txc_a).toInt = (-1) := wk_eq c_5
    replace hF := hF.trans (if_pos c_5)
    refine lv_iconst (v := (-1)) hx hb dX6_keysTold_21 (by decide) ?_
    refine W.widen (k := 0) (n := 0) (by decide) (by decide) ?_
    exact hret (-1) () _ _ _ 22 (wk_sub9 (is := [0, 1]) hP rfl) (hD.sub [0, 1] rfl rfl) hS dX6_keysTold_22 ⟨hF.symm, (show ((-1) ≤ (-1) ∧ (-1) ≤ 8) from by omega)⟩
  · have k_5 : ¬ (fn_X6_signsOfKey tx_size txc_a).toInt = (-1) := wk_neq c_5
    replace hF := hF.trans (if_neg c_5)
    refine lv_aload_n hx hb dX6_keysTold_10 rfl (lv_at hl 1 rfl) ?_
    refine wk_iV (As := []) (rest := []) (wc := [(tx, .inr (6, [.ref txc, .int tx_size])), (txc, .inl (cy, 44, .inl txc_a))]) (wr := []) (n := 0) ⟨hx, hb, hml, hown, htb⟩ (c_X6_firstFault l D cy tx txc tx_size txc_a  (show 0 ≤ tx_size.toInt ∧ tx_size.toInt ≤ 44 from by omega)) tw_306 tw_331 tw_304 tw_305 tw_65 rfl rfl (by decide +kernel) ⟨Nat.le_of_ble_eq_true rfl, Nat.le_of_ble_eq_true rfl⟩ hK hP hD hS hA [0, 1] [] rfl rfl rfl rfl (by decide) 0 (ci := 6) rfl rfl rfl hl.1 rfl (Nat.le_of_ble_eq_true rfl) dX6_keysTold_11 ⟨Nat.le_of_ble_eq_true rfl, Nat.le_of_ble_eq_true rfl⟩ (fun r_6 u_7 H locs hw_8 hP hD hS => ?_)
    refine W.widen (k := 0) (n := 0) (by decide) (by decide) ?_
    obtain ⟨hw_8, k_9, k_10⟩ := hw_8
    have hw_8 : r_6 = (fn_X6_firstFault tx_size txc_a) := hw_8
    subst hw_8
    have k_9 : (0 ≤ (fn_X6_firstFault tx_size txc_a).toInt ∧ (fn_X6_firstFault tx_size txc_a).toInt ≤ 44) := k_9
    have k_10 : ((fn_X6_firstFault tx_size txc_a).toInt ≤ tx_size.toInt) := k_10
    have hP : va_P D classes [(tx, .inr (6, [.ref txc, .int tx_size])), (txc, .inl (cy, 44, .inl txc_a))] H := hP
    have hD : va_D A [(tx, .inr (6, [.ref txc, .int tx_size])), (txc, .inl (cy, 44, .inl txc_a))] := hD
    refine lv_aload_n hx hb dX6_keysTold_14 rfl (lv_at hl 1 rfl) ?_
    refine va_get (D := D) (ci := 6) (v := .int tx_size) (C := RX6) (T := TX6) (N := 2) hx hb htb inX6 hown hK hP 0 rfl rfl 1 (by decide) (htb _ tw_94) (fun _ h9 => h9) rfl dX6_keysTold_15 ?_
    refine lv_icmp_ge (tgt := 23) hx hb dX6_keysTold_18 (by decide) (fun c_11 => ?_) (fun c_11 => ?_)
    · have k_11 : tx_size.toInt ≤ (fn_X6_firstFault tx_size txc_a).toInt := wk_le c_11
      replace hF := hF.trans (if_pos c_11)
      refine lv_iconst (v := 2) hx hb dX6_keysTold_23 (by decide) ?_
      refine lv_istore_n (lv' := [(2, .int 2), (1, .int (fn_X6_signsOfKey tx_size txc_a)), (0, .ref tx)]) hx hb dX6_keysTold_24 rfl hl (by decide) rfl (fun ls hl => ?_)
      have hlp_25 : ∀ (fu_25 : Nat) (x2_25 : Int32) (H : Heap) (locs : List Loc) (ls : Array Slot), (2 ≤ x2_25.toInt ∧ x2_25.toInt ≤ 9) → 9 - x2_25.toInt < (fu_25 : Int) → ((fn_X6_keysTold tx_size txc_a) = lp_X6_keysTold_25 tx_size txc_a fu_25 x2_25) → va_P D classes [(tx, .inr (6, [.ref txc, .int tx_size])), (txc, .inl (cy, 44, .inl txc_a))] H → va_D A [(tx, .inr (6, [.ref txc, .int tx_size])), (txc, .inl (cy, 44, .inl txc_a))] → va_S A s.heap H locs → lv_has ls 3 [(2, .int x2_25), (1, .int (fn_X6_signsOfKey tx_size txc_a)), (0, .ref tx)] → W p l e { frames := 4, cells := 0, slots := 0, locals := 91 } s m args below meth c H locs 0 0 Q (F0 m 25 ls []) := by
        intro fu_25
        induction fu_25 with
        | zero =>
          intro x2_25 H locs ls hi_25_0 hm hF hP hD hS hl
          exfalso; omega
        | succ fu_25 ih_25 =>
          intro x2_25 H locs ls hi_25_0 hm hF hP hD hS hl
          rw [lp_X6_keysTold_25] at hF
          refine lv_iload_n hx hb dX6_keysTold_25 rfl (lv_at hl 0 rfl) ?_
          refine lv_bipush (v := 8) hx hb dX6_keysTold_26 (by decide) ?_
          refine lv_icmp_gt (tgt := 53) hx hb dX6_keysTold_28 (by decide) (fun c_12 => ?_) (fun c_12 => ?_)
          · have k_12 : 8 < x2_25.toInt := wk_lt c_12
            replace hF := hF.trans (if_pos c_12)
            refine lv_iconst (v := (-1)) hx hb dX6_keysTold_53 (by decide) ?_
            refine W.widen (k := 0) (n := 0) (by decide) (by decide) ?_
            exact hret (-1) () _ _ _ 54 (wk_sub9 (is := [0, 1]) hP rfl) (hD.sub [0, 1] rfl rfl) hS dX6_keysTold_54 ⟨hF.symm, (show ((-1) ≤ (-1) ∧ (-1) ≤ 8) from by omega)⟩
          · have k_12 : ¬ 8 < x2_25.toInt := wk_nlt c_12
            replace hF := hF.trans (if_neg c_12)
            refine lv_aload_n hx hb dX6_keysTold_31 rfl (lv_at hl 2 rfl) ?_
            refine va_get (D := D) (ci := 6) (v := .int tx_size) (C := RX6) (T := TX6) (N := 2) hx hb htb inX6 hown hK hP 0 rfl rfl 1 (by decide) (htb _ tw_94) (fun _ h9 => h9) rfl dX6_keysTold_32 ?_
            refine lv_iconst (v := 1) hx hb dX6_keysTold_35 (by decide) ?_
            refine lv_iload_n hx hb dX6_keysTold_36 rfl (lv_at hl 0 rfl) ?_
            refine lv_iload_n hx hb dX6_keysTold_37 rfl (lv_at hl 1 rfl) ?_
            refine lv_iconst (v := 1) hx hb dX6_keysTold_38 (by decide) ?_
            refine lv_iadd hx hb dX6_keysTold_39 ?_
            have k_13 : ((fn_X6_signsOfKey tx_size txc_a) + 1).toInt = (fn_X6_signsOfKey tx_size txc_a).toInt + 1 := wk_add (fn_X6_signsOfKey tx_size txc_a).toInt 1 rfl rfl (by omega) (by omega)
            refine lv_imul hx hb dX6_keysTold_40 ?_
            refine lv_iadd hx hb dX6_keysTold_41 ?_
            refine lv_icmp_ne (tgt := 47) hx hb dX6_keysTold_42 (by decide) (fun c_14 => ?_) (fun c_14 => ?_)
            · have k_14 : ¬ tx_size.toInt = (1 + (x2_25 * ((fn_X6_signsOfKey tx_size txc_a) + 1))).toInt := wk_neq c_14
              replace hF := hF.trans (if_neg c_14)
              refine lv_iinc (v := (x2_25 + 1)) (lv' := [(2, .int (x2_25 + 1)), (1, .int (fn_X6_signsOfKey tx_size txc_a)), (0, .ref tx)]) hx hb dX6_keysTold_47 hl (k := 0) rfl rfl (by decide) rfl (fun ls hl => ?_)
              have k_15 : (x2_25 + 1).toInt = x2_25.toInt + 1 := wk_add x2_25.toInt 1 rfl rfl (by omega) (by omega)
              refine lv_goto (tgt := 25) hx hb dX6_keysTold_50 (by decide) ?_
              exact ih_25 (x2_25 + 1) _ _ _ (show 2 ≤ (x2_25 + 1).toInt ∧ (x2_25 + 1).toInt ≤ 9 from by omega) (show 9 - (x2_25 + 1).toInt < ((fu_25 : Nat) : Int) from by omega) hF hP hD hS (lv_sub hl [0, 1, 2] rfl)
            · have k_14 : tx_size.toInt = (1 + (x2_25 * ((fn_X6_signsOfKey tx_size txc_a) + 1))).toInt := wk_eq c_14
              replace hF := hF.trans (if_pos c_14)
              refine lv_iload_n hx hb dX6_keysTold_45 rfl (lv_at hl 0 rfl) ?_
              refine W.widen (k := 0) (n := 0) (by decide) (by decide) ?_
              exact hret x2_25 () _ _ _ 46 (wk_sub9 (is := [0, 1]) hP rfl) (hD.sub [0, 1] rfl rfl) hS dX6_keysTold_46 ⟨hF.symm, (show ((-1) ≤ x2_25.toInt ∧ x2_25.toInt ≤ 8) from by omega)⟩
      exact hlp_25 10 2 _ _ _ (show 2 ≤ 2 ∧ 2 ≤ 9 from by omega) (show 9 - 2 < ((10 : Nat) : Int) from by omega) hF hP hD hS (lv_sub hl [0, 1, 2] rfl)
    · have k_11 : ¬ tx_size.toInt ≤ (fn_X6_firstFault tx_size txc_a).toInt := wk_nle c_11
      replace hF := hF.trans (if_neg c_11)
      refine lv_iconst (v := (-1)) hx hb dX6_keysTold_21 (by decide) ?_
      refine W.widen (k := 0) (n := 0) (by decide) (by decide) ?_
      exact hret (-1) () _ _ _ 22 (wk_sub9 (is := [0, 1]) hP rfl) (hD.sub [0, 1] rfl rfl) hS dX6_keysTold_22 ⟨hF.symm, (show ((-1) ≤ (-1) ∧ (-1) ≤ 8) from by omega)⟩
