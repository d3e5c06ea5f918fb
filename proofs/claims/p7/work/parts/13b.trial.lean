def fn_X9_weighChange (tr_least : Int32) (tr_changeNumber : Int32) (tr_changeHeight : Int32) (trw_number : Int32) (trw_lane : Int32) (trw_looks : Int32) (tra_a : Nat → Int32) (ro_size : Int32) (rok_a : Nat → Int32) (rot_a : Nat → Int32) (a : Int32) : Int32 × Int32 × Int32 × Int32 × Int32 × Int32 := (pm2 (fn_X9_costOf trw_number trw_lane trw_looks ro_size rok_a rot_a tra_a) (fun r_1 t_ => (pm2 (t_) (fun o_4 t_ => (pm2 (t_) (fun o_5 o_6 => (if tr_least ≤ r_1 then (tr_least, tr_changeNumber, tr_changeHeight, o_4, o_5, o_6) else (r_1, a, (tra_a a.toNatClampNeg), o_4, o_5, o_6))))))))
theorem dX9_weighChange_0 : decode cX9_weighChange 0 = .ok (.aload_n 0, 1) := by decide +kernel
theorem dX9_weighChange_1 : decode cX9_weighChange 1 = .ok (.aload_n 1, 1) := by decide +kernel
theorem dX9_weighChange_2 : decode cX9_weighChange 2 = .ok (.aload_n 0, 1) := by decide +kernel
theorem dX9_weighChange_3 : decode cX9_weighChange 3 = .ok (.getfield 18, 3) := by decide +kernel
theorem dX9_weighChange_6 : decode cX9_weighChange 6 = .ok (.invokevirtual 64, 3) := by decide +kernel
theorem dX9_weighChange_9 : decode cX9_weighChange 9 = .ok (.istore_n 3, 1) := by decide +kernel
theorem dX9_weighChange_10 : decode cX9_weighChange 10 = .ok (.iload_n 3, 1) := by decide +kernel
theorem dX9_weighChange_11 : decode cX9_weighChange 11 = .ok (.aload_n 0, 1) := by decide +kernel
theorem dX9_weighChange_12 : decode cX9_weighChange 12 = .ok (.getfield 46, 3) := by decide +kernel
theorem dX9_weighChange_15 : decode cX9_weighChange 15 = .ok (.if_icmp .ge 23, 3) := by decide +kernel
theorem dX9_weighChange_18 : decode cX9_weighChange 18 = .ok (.aload_n 0, 1) := by decide +kernel
theorem dX9_weighChange_19 : decode cX9_weighChange 19 = .ok (.iload_n 3, 1) := by decide +kernel
theorem dX9_weighChange_20 : decode cX9_weighChange 20 = .ok (.putfield 46, 3) := by decide +kernel
theorem dX9_weighChange_23 : decode cX9_weighChange 23 = .ok (.aload_n 0, 1) := by decide +kernel
theorem dX9_weighChange_24 : decode cX9_weighChange 24 = .ok (.iload_n 2, 1) := by decide +kernel
theorem dX9_weighChange_25 : decode cX9_weighChange 25 = .ok (.putfield 72, 3) := by decide +kernel
theorem dX9_weighChange_28 : decode cX9_weighChange 28 = .ok (.aload_n 0, 1) := by decide +kernel
theorem dX9_weighChange_29 : decode cX9_weighChange 29 = .ok (.aload_n 0, 1) := by decide +kernel
theorem dX9_weighChange_30 : decode cX9_weighChange 30 = .ok (.getfield 18, 3) := by decide +kernel
theorem dX9_weighChange_33 : decode cX9_weighChange 33 = .ok (.iload_n 2, 1) := by decide +kernel
theorem dX9_weighChange_34 : decode cX9_weighChange 34 = .ok (.iaload, 1) := by decide +kernel
theorem dX9_weighChange_35 : decode cX9_weighChange 35 = .ok (.putfield 75, 3) := by decide +kernel
theorem dX9_weighChange_38 : decode cX9_weighChange 38 = .ok (.return_, 1) := by decide +kernel
set_option maxHeartbeats 4000000 in
set_option maxRecDepth 100000 in
theorem c_X9_weighChange (l : Launch) (D : va_G) (cy : ClassId) (tr trw tra trb trc ro rok rov roh rot : Nat) (tr_least : Int32) (tr_bestLinks : Int32) (tr_changeNumber : Int32) (tr_changeHeight : Int32) (trw_number : Int32) (trw_lane : Int32) (trw_looks : Int32) (tra_a : Nat → Int32) (ro_size : Int32) (rok_a : Nat → Int32) (rot_a : Nat → Int32) (a : Int32) (g_0 : (-1) ≤ trw_number.toInt ∧ trw_number.toInt ≤ 7) (g_1 : 0 ≤ ro_size.toInt ∧ ro_size.toInt ≤ 8) (g_2 : 0 ≤ a.toInt ∧ a.toInt ≤ 7) : wk_Cv l yX9_weighChange cX9_weighChange 4 none { frames := 4, cells := 0, slots := 0, locals := 89 } D cy [.ref tr, .ref ro, .int a] [(tr, .inr (9, [.ref trw, .ref tra, .ref trb, .ref trc, .int tr_least, .int tr_bestLinks, .int tr_changeNumber, .int tr_changeHeight])), (trw, .inr (10, [.int trw_number, .int trw_lane, .int trw_looks])), (tra, .inl (cy, 8, .inl tra_a)), (ro, .inr (8, [.ref rok, .ref rov, .ref roh, .ref rot, .int ro_size])), (rok, .inl (cy, 8, .inl rok_a)), (rot, .inl (cy, 8, .inl rot_a))] 0 0 (fun (u : Int32 × Int32 × Int32 × Int32 × Int32 × Int32) => u = (fn_X9_weighChange tr_least tr_changeNumber tr_changeHeight trw_number trw_lane trw_looks tra_a ro_size rok_a rot_a a) ∧ ((-1) ≤ u.2.2.2.1.toInt ∧ u.2.2.2.1.toInt ≤ 7)) (fun u => [(tr, .inr (9, [.ref trw, .ref tra, .ref trb, .ref trc, .int u.1, .int tr_bestLinks, .int u.2.1, .int u.2.2.1])), (trw, .inr (10, [.int u.2.2.2.1, .int u.2.2.2.2.1, .int u.2.2.2.2.2])), (tra, .inl (cy, 8, .inl tra_a)), (ro, .inr (8, [.ref rok, .ref rov, .ref roh, .ref rot, .int ro_size])), (rok, .inl (cy, 8, .inl rok_a)), (rot, .inl (cy, 8, .inl rot_a))]) := by
  refine wk_mk2Cv (by decide) (Nat.le_of_ble_eq_true rfl) ?_
  intro p e s m args below meth c A ls Q B hA hK hP hD hS hl hret
  obtain ⟨hx, hb, hr, hlocks, hml, hown, htb, hin⟩ := B
  have hl : lv_has ls 4 [(0, .ref tr), (1, .ref ro), (2, .int a)] := hl
  have hF : (fn_X9_weighChange tr_least tr_changeNumber tr_changeHeight trw_number trw_lane trw_looks tra_a ro_size rok_a rot_a a) = (fn_X9_weighChange tr_least tr_changeNumber tr_changeHeight trw_number trw_lane trw_looks tra_a ro_size rok_a rot_a a) := rfl
  conv at hF => rhs; unfold fn_X9_weighChange
  refine lv_aload_n hx hb dX9_weighChange_0 rfl (lv_at hl 0 rfl) ?_
  refine lv_aload_n hx hb dX9_weighChange_1 rfl (lv_at hl 1 rfl) ?_
  refine lv_aload_n hx hb dX9_weighChange_2 rfl (lv_at hl 0 rfl) ?_
  refine va_get (D := D) (ci := 9) (v := .ref tra) (C := RX9) (T := TX9) (N := 8) hx hb htb inX9 hown hK hP 0 rfl rfl 1 (by decide) (htb _ tw_224) (fun _ h9 => h9) rfl dX9_weighChange_3 ?_
  refine wk_iV (As := [.ref ro, .ref tra]) (rest := []) (wc := [(tr, .inr (9, [.ref trw, .ref tra, .ref trb, .ref trc, .int tr_least, .int tr_bestLinks, .int tr_changeNumber, .int tr_changeHeight])), (trw, .inr (10, [.int trw_number, .int trw_lane, .int trw_looks])), (ro, .inr (8, [.ref rok, .ref rov, .ref roh, .ref rot, .int ro_size])), (rok, .inl (cy, 8, .inl rok_a)), (rot, .inl (cy, 8, .inl rot_a)), (tra, .inl (cy, 8, .inl tra_a))]) (wr := []) (n := 2) ⟨hx, hb, hml, hown, htb⟩ (c_X9_costOf l D cy tr trw tra trb trc ro rok rov roh rot tra tr_least tr_bestLinks tr_changeNumber tr_changeHeight trw_number trw_lane trw_looks ro_size rok_a rot_a tra_a  (show (-1) ≤ trw_number.toInt ∧ trw_number.toInt ≤ 7 from by omega) (show 0 ≤ ro_size.toInt ∧ ro_size.toInt ≤ 8 from by omega)) tw_637 tw_654 tw_635 tw_636 tw_70 rfl rfl (by decide +kernel) ⟨Nat.le_of_ble_eq_true rfl, Nat.le_of_ble_eq_true rfl⟩ hK hP hD hS hA [0, 1, 3, 4, 5, 2] [] rfl rfl rfl rfl (by decide) 0 (ci := 9) rfl rfl rfl hl.1 rfl (Nat.le_of_ble_eq_true rfl) dX9_weighChange_6 ⟨Nat.le_of_ble_eq_true rfl, Nat.le_of_ble_eq_true rfl⟩ (fun r_1 u_2 H locs hw_3 hP hD hS => ?_)
  refine W.widen (k := 0) (n := 0) (by decide) (by decide) ?_
  obtain ⟨o_4, o_5, o_6⟩ := u_2
  obtain ⟨hw_3, k_7⟩ := hw_3
  have hw_3 : (r_1, o_4, o_5, o_6) = (fn_X9_costOf trw_number trw_lane trw_looks ro_size rok_a rot_a tra_a) := hw_3
  have k_7 : ((-1) ≤ o_4.toInt ∧ o_4.toInt ≤ 7) := k_7
  rw [← hw_3] at hF
  rw [pm2_mk r_1 (o_4, o_5, o_6), pm2_mk o_4 (o_5, o_6), pm2_mk o_5 o_6] at hF
  have hP : va_P D classes [(tr, .inr (9, [.ref trw, .ref tra, .ref trb, .ref trc, .int tr_least, .int tr_bestLinks, .int tr_changeNumber, .int tr_changeHeight])), (trw, .inr (10, [.int o_4, .int o_5, .int o_6])), (ro, .inr (8, [.ref rok, .ref rov, .ref roh, .ref rot, .int ro_size])), (rok, .inl (cy, 8, .inl rok_a)), (rot, .inl (cy, 8, .inl rot_a)), (tra, .inl (cy, 8, .inl tra_a))] H := hP
  have hD : va_D A [(tr, .inr (9, [.ref trw, .ref tra, .ref trb, .ref trc, .int tr_least, .int tr_bestLinks, .int tr_changeNumber, .int tr_changeHeight])), (trw, .inr (10, [.int o_4, .int o_5, .int o_6])), (ro, .inr (8, [.ref rok, .ref rov, .ref roh, .ref rot, .int ro_size])), (rok, .inl (cy, 8, .inl rok_a)), (rot, .inl (cy, 8, .inl rot_a)), (tra, .inl (cy, 8, .inl tra_a))] := hD
  refine lv_istore_n (lv' := [(3, .int r_1), (0, .ref tr), (1, .ref ro), (2, .int a)]) hx hb dX9_weighChange_9 rfl hl (by decide) rfl (fun ls hl => ?_)
  refine lv_iload_n hx hb dX9_weighChange_10 rfl (lv_at hl 0 rfl) ?_
  refine lv_aload_n hx hb dX9_weighChange_11 rfl (lv_at hl 1 rfl) ?_
  refine va_get (D := D) (ci := 9) (v := .int tr_least) (C := RX9) (T := TX9) (N := 8) hx hb htb inX9 hown hK hP 0 rfl rfl 4 (by decide) (htb _ tw_227) (fun _ h9 => h9) rfl dX9_weighChange_12 ?_
  refine lv_icmp_ge (tgt := 38) hx hb dX9_weighChange_15 (by decide) (fun c_8 => ?_) (fun c_8 => ?_)
  · have k_8 : tr_least.toInt ≤ r_1.toInt := wk_le c_8
    replace hF := hF.trans (if_pos c_8)
    refine W.widen (k := 0) (n := 0) (by decide) (by decide) ?_
    exact hret (tr_least, tr_changeNumber, tr_changeHeight, o_4, o_5, o_6) _ _ _ 38 (wk_sub9 (is := [0, 1, 5, 2, 3, 4]) hP rfl) (hD.sub [0, 1, 5, 2, 3, 4] rfl rfl) hS dX9_weighChange_38 ⟨hF.symm, (show ((-1) ≤ o_4.toInt ∧ o_4.toInt ≤ 7) from by omega)⟩
  · have k_8 : ¬ tr_least.toInt ≤ r_1.toInt := wk_nle c_8
    replace hF := hF.trans (if_neg c_8)
    refine lv_aload_n hx hb dX9_weighChange_18 rfl (lv_at hl 1 rfl) ?_
    refine lv_iload_n hx hb dX9_weighChange_19 rfl (lv_at hl 0 rfl) ?_
    refine va_put (D := D) (ci := 9) (v := .int r_1) (ty := .int) (C := RX9) (T := TX9) (N := 8) hx hb htb inX9 tyX9 tyX9_ok nmX9 hown hK hP hD hS 0 rfl rfl 4 (by decide) (htb _ tw_227) (fun _ h9 => h9) rfl (by decide +kernel) rfl rfl (Nat.le_of_ble_eq_true rfl) dX9_weighChange_20 (fun H locs hP hD hS => ?_)
    have hP : va_P D classes [(tr, .inr (9, [.ref trw, .ref tra, .ref trb, .ref trc, .int r_1, .int tr_bestLinks, .int tr_changeNumber, .int tr_changeHeight])), (trw, .inr (10, [.int o_4, .int o_5, .int o_6])), (ro, .inr (8, [.ref rok, .ref rov, .ref roh, .ref rot, .int ro_size])), (rok, .inl (cy, 8, .inl rok_a)), (rot, .inl (cy, 8, .inl rot_a)), (tra, .inl (cy, 8, .inl tra_a))] H := hP
    have hD : va_D A [(tr, .inr (9, [.ref trw, .ref tra, .ref trb, .ref trc, .int r_1, .int tr_bestLinks, .int tr_changeNumber, .int tr_changeHeight])), (trw, .inr (10, [.int o_4, .int o_5, .int o_6])), (ro, .inr (8, [.ref rok, .ref rov, .ref roh, .ref rot, .int ro_size])), (rok, .inl (cy, 8, .inl rok_a)), (rot, .inl (cy, 8, .inl rot_a)), (tra, .inl (cy, 8, .inl tra_a))] := hD
    refine lv_aload_n hx hb dX9_weighChange_23 rfl (lv_at hl 1 rfl) ?_
    refine lv_iload_n hx hb dX9_weighChange_24 rfl (lv_at hl 3 rfl) ?_
    refine va_put (D := D) (ci := 9) (v := .int a) (ty := .int) (C := RX9) (T := TX9) (N := 8) hx hb htb inX9 tyX9 tyX9_ok nmX9 hown hK hP hD hS 0 rfl rfl 6 (by decide) (htb _ tw_231) (fun _ h9 => h9) rfl (by decide +kernel) rfl rfl (Nat.le_of_ble_eq_true rfl) dX9_weighChange_25 (fun H locs hP hD hS => ?_)
    have hP : va_P D classes [(tr, .inr (9, [.ref trw, .ref tra, .ref trb, .ref trc, .int r_1, .int tr_bestLinks, .int a, .int tr_changeHeight])), (trw, .inr (10, [.int o_4, .int o_5, .int o_6])), (ro, .inr (8, [.ref rok, .ref rov, .ref roh, .ref rot, .int ro_size])), (rok, .inl (cy, 8, .inl rok_a)), (rot, .inl (cy, 8, .inl rot_a)), (tra, .inl (cy, 8, .inl tra_a))] H := hP
    have hD : va_D A [(tr, .inr (9, [.ref trw, .ref tra, .ref trb, .ref trc, .int r_1, .int tr_bestLinks, .int a, .int tr_changeHeight])), (trw, .inr (10, [.int o_4, .int o_5, .int o_6])), (ro, .inr (8, [.ref rok, .ref rov, .ref roh, .ref rot, .int ro_size])), (rok, .inl (cy, 8, .inl rok_a)), (rot, .inl (cy, 8, .inl rot_a)), (tra, .inl (cy, 8, .inl tra_a))] := hD
    refine lv_aload_n hx hb dX9_weighChange_28 rfl (lv_at hl 1 rfl) ?_
    refine lv_aload_n hx hb dX9_weighChange_29 rfl (lv_at hl 1 rfl) ?_
    refine va_get (D := D) (ci := 9) (v := .ref tra) (C := RX9) (T := TX9) (N := 8) hx hb htb inX9 hown hK hP 0 rfl rfl 1 (by decide) (htb _ tw_224) (fun _ h9 => h9) rfl dX9_weighChange_30 ?_
    refine lv_iload_n hx hb dX9_weighChange_33 rfl (lv_at hl 3 rfl) ?_
    refine va_iald hx hb hK hP 5 0 rfl rfl (show vp_in a 8 from vp_in_iff.mpr (show 0 ≤ a.toInt ∧ a.toInt < ((8 : Nat) : Int) from by omega)) dX9_weighChange_34 ?_
    refine va_put (D := D) (ci := 9) (v := .int (tra_a a.toNatClampNeg)) (ty := .int) (C := RX9) (T := TX9) (N := 8) hx hb htb inX9 tyX9 tyX9_ok nmX9 hown hK hP hD hS 0 rfl rfl 7 (by decide) (htb _ tw_233) (fun _ h9 => h9) rfl (by decide +kernel) rfl rfl (Nat.le_of_ble_eq_true rfl) dX9_weighChange_35 (fun H locs hP hD hS => ?_)
    have hP : va_P D classes [(tr, .inr (9, [.ref trw, .ref tra, .ref trb, .ref trc, .int r_1, .int tr_bestLinks, .int a, .int (tra_a a.toNatClampNeg)])), (trw, .inr (10, [.int o_4, .int o_5, .int o_6])), (ro, .inr (8, [.ref rok, .ref rov, .ref roh, .ref rot, .int ro_size])), (rok, .inl (cy, 8, .inl rok_a)), (rot, .inl (cy, 8, .inl rot_a)), (tra, .inl (cy, 8, .inl tra_a))] H := hP
    have hD : va_D A [(tr, .inr (9, [.ref trw, .ref tra, .ref trb, .ref trc, .int r_1, .int tr_bestLinks, .int a, .int (tra_a a.toNatClampNeg)])), (trw, .inr (10, [.int o_4, .int o_5, .int o_6])), (ro, .inr (8, [.ref rok, .ref rov, .ref roh, .ref rot, .int ro_size])), (rok, .inl (cy, 8, .inl rok_a)), (rot, .inl (cy, 8, .inl rot_a)), (tra, .inl (cy, 8, .inl tra_a))] := hD
    refine W.widen (k := 0) (n := 0) (by decide) (by decide) ?_
    exact hret (r_1, a, (tra_a a.toNatClampNeg), o_4, o_5, o_6) _ _ _ 38 (wk_sub9 (is := [0, 1, 5, 2, 3, 4]) hP rfl) (hD.sub [0, 1, 5, 2, 3, 4] rfl rfl) hS dX9_weighChange_38 ⟨hF.symm, (show ((-1) ≤ o_4.toInt ∧ o_4.toInt ≤ 7) from by omega)⟩
def lp_X9_seekChange_47 (tr_least : Int32) (tr_changeNumber : Int32) (tr_changeHeight : Int32) (trw_number : Int32) (trw_lane : Int32) (trw_looks : Int32) (tra_a : Nat → Int32) (ro_size : Int32) (rok_a : Nat → Int32) (roh_a : Nat → Int32) (rot_a : Nat → Int32) (o_4 : Int32) (o_5 : Int32) (o_6 : Int32) (r_1 : Int32) (o_11 : Nat → Int32) (x2_37 : Int32) (tr_least_37 : Int32) (tr_changeNumber_37 : Int32) (tr_changeHeight_37 : Int32) (trw_number_37 : Int32) (trw_lane_37 : Int32) (trw_looks_37 : Int32) (tra_a_37 : Nat → Int32) : Nat → Int32 → Int32 → Int32 → Int32 → Int32 → Int32 → Int32 → (Nat → Int32) → Int32 × Int32 × Int32 × Int32 × Int32 × Int32 × Int32 × (Nat → Int32)
  | 0, _, _, _, _, _, _, _, _ => default
  | fu_47 + 1, x3_47, tr_least_47, tr_changeNumber_47, tr_changeHeight_47, trw_number_47, trw_lane_47, trw_looks_47, tra_a_47 => (if (4 : Int32) < x3_47 then (x3_47, tr_least_47, tr_changeNumber_47, tr_changeHeight_47, trw_number_47, trw_lane_47, trw_looks_47, tra_a_47) else (pm2 (fn_X9_weighChange tr_least_47 tr_changeNumber_47 tr_changeHeight_47 trw_number_47 trw_lane_47 trw_looks_47 (upd tra_a_47 x2_37.toNatClampNeg x3_47) ro_size rok_a rot_a x2_37) (fun o_17 t_ => (pm2 (t_) (fun o_18 t_ => (pm2 (t_) (fun o_19 t_ => (pm2 (t_) (fun o_20 t_ => (pm2 (t_) (fun o_21 o_22 => (lp_X9_seekChange_47 tr_least tr_changeNumber tr_changeHeight trw_number trw_lane trw_looks tra_a ro_size rok_a roh_a rot_a o_4 o_5 o_6 r_1 o_11 x2_37 tr_least_37 tr_changeNumber_37 tr_changeHeight_37 trw_number_37 trw_lane_37 trw_looks_37 tra_a_37 fu_47 (x3_47 + 1) o_17 o_18 o_19 o_20 o_21 o_22 (upd tra_a_47 x2_37.toNatClampNeg x3_47)))))))))))))
termination_by n => n
def lp_X9_seekChange_37 (tr_least : Int32) (tr_changeNumber : Int32) (tr_changeHeight : Int32) (trw_number : Int32) (trw_lane : Int32) (trw_looks : Int32) (tra_a : Nat → Int32) (ro_size : Int32) (rok_a : Nat → Int32) (roh_a : Nat → Int32) (rot_a : Nat → Int32) (o_4 : Int32) (o_5 : Int32) (o_6 : Int32) (r_1 : Int32) (o_11 : Nat → Int32) : Nat → Int32 → Int32 → Int32 → Int32 → Int32 → Int32 → Int32 → (Nat → Int32) → Int32 × Int32 × Int32 × Int32 × Int32 × Int32 × Int32 × (Nat → Int32)
  | 0, _, _, _, _, _, _, _, _ => default
  | fu_37 + 1, x2_37, tr_least_37, tr_changeNumber_37, tr_changeHeight_37, trw_number_37, trw_lane_37, trw_looks_37, tra_a_37 => (if ro_size ≤ x2_37 then (x2_37, tr_least_37, tr_changeNumber_37, tr_changeHeight_37, trw_number_37, trw_lane_37, trw_looks_37, tra_a_37) else (pm2 (lp_X9_seekChange_47 tr_least tr_changeNumber tr_changeHeight trw_number trw_lane trw_looks tra_a ro_size rok_a roh_a rot_a o_4 o_5 o_6 r_1 o_11 x2_37 tr_least_37 tr_changeNumber_37 tr_changeHeight_37 trw_number_37 trw_lane_37 trw_looks_37 tra_a_37 6 1 tr_least_37 tr_changeNumber_37 tr_changeHeight_37 trw_number_37 trw_lane_37 trw_looks_37 tra_a_37) (fun x3_47 t_ => (pm2 (t_) (fun tr_least_47 t_ => (pm2 (t_) (fun tr_changeNumber_47 t_ => (pm2 (t_) (fun tr_changeHeight_47 t_ => (pm2 (t_) (fun trw_number_47 t_ => (pm2 (t_) (fun trw_lane_47 t_ => (pm2 (t_) (fun trw_looks_47 tra_a_47 => (lp_X9_seekChange_37 tr_least tr_changeNumber tr_changeHeight trw_number trw_lane trw_looks tra_a ro_size rok_a roh_a rot_a o_4 o_5 o_6 r_1 o_11 fu_37 (x2_37 + 1) tr_least_47 tr_changeNumber_47 tr_changeHeight_47 trw_number_47 trw_lane_47 trw_looks_47 (upd tra_a_47 x2_37.toNatClampNeg (roh_a x2_37.toNatClampNeg))))))))))))))))))
termination_by n => n
def fn_X9_seekChange (tr_least : Int32) (tr_changeNumber : Int32) (tr_changeHeight : Int32) (trw_number : Int32) (trw_lane : Int32) (trw_looks : Int32) (tra_a : Nat → Int32) (ro_size : Int32) (rok_a : Nat → Int32) (roh_a : Nat → Int32) (rot_a : Nat → Int32) : Int32 × Int32 × Int32 × Int32 × Int32 × Int32 × (Nat → Int32) := (pm2 (fn_X9_costOf trw_number trw_lane trw_looks ro_size rok_a rot_a roh_a) (fun r_1 t_ => (pm2 (t_) (fun o_4 t_ => (pm2 (t_) (fun o_5 o_6 => (pm1 (fn_X9_copyHeights ro_size roh_a tra_a) (fun o_11 => (pm2 (lp_X9_seekChange_37 tr_least tr_changeNumber tr_changeHeight trw_number trw_lane trw_looks tra_a ro_size rok_a roh_a rot_a o_4 o_5 o_6 r_1 o_11 10 0 r_1 (-1) (-1) o_4 o_5 o_6 o_11) (fun x2_37 t_ => (pm2 (t_) (fun tr_least_37 t_ => (pm2 (t_) (fun tr_changeNumber_37 t_ => (pm2 (t_) (fun tr_changeHeight_37 t_ => (pm2 (t_) (fun trw_number_37 t_ => (pm2 (t_) (fun trw_lane_37 t_ => (pm2 (t_) (fun trw_looks_37 tra_a_37 => (if tr_changeNumber_37 = (-1) then ((-1), tr_changeNumber_37, tr_changeHeight_37, trw_number_37, trw_lane_37, trw_looks_37, tra_a_37) else (tr_least_37, tr_changeNumber_37, tr_changeHeight_37, trw_number_37, trw_lane_37, trw_looks_37, tra_a_37))))))))))))))))))))))))
theorem dX9_seekChange_0 : decode cX9_seekChange 0 = .ok (.aload_n 0, 1) := by decide +kernel
theorem dX9_seekChange_1 : decode cX9_seekChange 1 = .ok (.iconst (-1), 1) := by decide +kernel
theorem dX9_seekChange_2 : decode cX9_seekChange 2 = .ok (.putfield 72, 3) := by decide +kernel
theorem dX9_seekChange_5 : decode cX9_seekChange 5 = .ok (.aload_n 0, 1) := by decide +kernel
theorem dX9_seekChange_6 : decode cX9_seekChange 6 = .ok (.iconst (-1), 1) := by decide +kernel
theorem dX9_seekChange_7 : decode cX9_seekChange 7 = .ok (.putfield 75, 3) := by decide +kernel
theorem dX9_seekChange_10 : decode cX9_seekChange 10 = .ok (.aload_n 0, 1) := by decide +kernel
theorem dX9_seekChange_11 : decode cX9_seekChange 11 = .ok (.aload_n 0, 1) := by decide +kernel
theorem dX9_seekChange_12 : decode cX9_seekChange 12 = .ok (.aload_n 1, 1) := by decide +kernel
theorem dX9_seekChange_13 : decode cX9_seekChange 13 = .ok (.aload_n 1, 1) := by decide +kernel
theorem dX9_seekChange_14 : decode cX9_seekChange 14 = .ok (.getfield 78, 3) := by decide +kernel
theorem dX9_seekChange_17 : decode cX9_seekChange 17 = .ok (.invokevirtual 64, 3) := by decide +kernel
theorem dX9_seekChange_20 : decode cX9_seekChange 20 = .ok (.putfield 46, 3) := by decide +kernel
theorem dX9_seekChange_23 : decode cX9_seekChange 23 = .ok (.aload_n 1, 1) := by decide +kernel
theorem dX9_seekChange_24 : decode cX9_seekChange 24 = .ok (.aload_n 1, 1) := by decide +kernel
theorem dX9_seekChange_25 : decode cX9_seekChange 25 = .ok (.getfield 78, 3) := by decide +kernel
theorem dX9_seekChange_28 : decode cX9_seekChange 28 = .ok (.aload_n 0, 1) := by decide +kernel
theorem dX9_seekChange_29 : decode cX9_seekChange 29 = .ok (.getfield 18, 3) := by decide +kernel
theorem dX9_seekChange_32 : decode cX9_seekChange 32 = .ok (.invokestatic 68, 3) := by decide +kernel
theorem dX9_seekChange_35 : decode cX9_seekChange 35 = .ok (.iconst 0, 1) := by decide +kernel
theorem dX9_seekChange_36 : decode cX9_seekChange 36 = .ok (.istore_n 2, 1) := by decide +kernel
theorem dX9_seekChange_37 : decode cX9_seekChange 37 = .ok (.iload_n 2, 1) := by decide +kernel
theorem dX9_seekChange_38 : decode cX9_seekChange 38 = .ok (.aload_n 1, 1) := by decide +kernel
theorem dX9_seekChange_39 : decode cX9_seekChange 39 = .ok (.getfield 28, 3) := by decide +kernel
theorem dX9_seekChange_42 : decode cX9_seekChange 42 = .ok (.if_icmp .ge 47, 3) := by decide +kernel
theorem dX9_seekChange_45 : decode cX9_seekChange 45 = .ok (.iconst 1, 1) := by decide +kernel
theorem dX9_seekChange_46 : decode cX9_seekChange 46 = .ok (.istore_n 3, 1) := by decide +kernel
theorem dX9_seekChange_47 : decode cX9_seekChange 47 = .ok (.iload_n 3, 1) := by decide +kernel
theorem dX9_seekChange_48 : decode cX9_seekChange 48 = .ok (.iconst 4, 1) := by decide +kernel
theorem dX9_seekChange_49 : decode cX9_seekChange 49 = .ok (.if_icmp .gt 22, 3) := by decide +kernel
theorem dX9_seekChange_52 : decode cX9_seekChange 52 = .ok (.aload_n 0, 1) := by decide +kernel
theorem dX9_seekChange_53 : decode cX9_seekChange 53 = .ok (.getfield 18, 3) := by decide +kernel
theorem dX9_seekChange_56 : decode cX9_seekChange 56 = .ok (.iload_n 2, 1) := by decide +kernel
theorem dX9_seekChange_57 : decode cX9_seekChange 57 = .ok (.iload_n 3, 1) := by decide +kernel
theorem dX9_seekChange_58 : decode cX9_seekChange 58 = .ok (.iastore, 1) := by decide +kernel
theorem dX9_seekChange_59 : decode cX9_seekChange 59 = .ok (.aload_n 0, 1) := by decide +kernel
theorem dX9_seekChange_60 : decode cX9_seekChange 60 = .ok (.aload_n 1, 1) := by decide +kernel
theorem dX9_seekChange_61 : decode cX9_seekChange 61 = .ok (.iload_n 2, 1) := by decide +kernel
theorem dX9_seekChange_62 : decode cX9_seekChange 62 = .ok (.invokevirtual 81, 3) := by decide +kernel
theorem dX9_seekChange_65 : decode cX9_seekChange 65 = .ok (.iinc 3 1, 3) := by decide +kernel
theorem dX9_seekChange_68 : decode cX9_seekChange 68 = .ok (.goto (-21), 3) := by decide +kernel
theorem dX9_seekChange_71 : decode cX9_seekChange 71 = .ok (.aload_n 0, 1) := by decide +kernel
theorem dX9_seekChange_72 : decode cX9_seekChange 72 = .ok (.getfield 18, 3) := by decide +kernel
theorem dX9_seekChange_75 : decode cX9_seekChange 75 = .ok (.iload_n 2, 1) := by decide +kernel
theorem dX9_seekChange_76 : decode cX9_seekChange 76 = .ok (.aload_n 1, 1) := by decide +kernel
theorem dX9_seekChange_77 : decode cX9_seekChange 77 = .ok (.getfield 78, 3) := by decide +kernel
theorem dX9_seekChange_80 : decode cX9_seekChange 80 = .ok (.iload_n 2, 1) := by decide +kernel
theorem dX9_seekChange_81 : decode cX9_seekChange 81 = .ok (.iaload, 1) := by decide +kernel
theorem dX9_seekChange_82 : decode cX9_seekChange 82 = .ok (.iastore, 1) := by decide +kernel
theorem dX9_seekChange_83 : decode cX9_seekChange 83 = .ok (.iinc 2 1, 3) := by decide +kernel
theorem dX9_seekChange_86 : decode cX9_seekChange 86 = .ok (.goto (-49), 3) := by decide +kernel
theorem dX9_seekChange_89 : decode cX9_seekChange 89 = .ok (.aload_n 0, 1) := by decide +kernel
theorem dX9_seekChange_90 : decode cX9_seekChange 90 = .ok (.getfield 72, 3) := by decide +kernel
theorem dX9_seekChange_93 : decode cX9_seekChange 93 = .ok (.iconst (-1), 1) := by decide +kernel
theorem dX9_seekChange_94 : decode cX9_seekChange 94 = .ok (.if_icmp .ne 8, 3) := by decide +kernel
theorem dX9_seekChange_97 : decode cX9_seekChange 97 = .ok (.aload_n 0, 1) := by decide +kernel
theorem dX9_seekChange_98 : decode cX9_seekChange 98 = .ok (.iconst (-1), 1) := by decide +kernel
theorem dX9_seekChange_99 : decode cX9_seekChange 99 = .ok (.putfield 46, 3) := by decide +kernel
theorem dX9_seekChange_102 : decode cX9_seekChange 102 = .ok (.return_, 1) := by decide +kernel
set_option maxHeartbeats 4000000 in
set_option maxRecDepth 100000 in
theorem c_X9_seekChange (l : Launch) (D : va_G) (cy : ClassId) (tr trw tra trb trc ro rok rov roh rot : Nat) (tr_least : Int32) (tr_bestLinks : Int32) (tr_changeNumber : Int32) (tr_changeHeight : Int32) (trw_number : Int32) (trw_lane : Int32) (trw_looks : Int32) (tra_a : Nat → Int32) (ro_size : Int32) (rok_a : Nat → Int32) (roh_a : Nat → Int32) (rot_a : Nat → Int32)  (g_0 : (-1) ≤ trw_number.toInt ∧ trw_number.toInt ≤ 7) (g_1 : 0 ≤ ro_size.toInt ∧ ro_size.toInt ≤ 8) : wk_Cv l yX9_seekChange cX9_seekChange 4 none { frames := 5, cells := 0, slots := 0, locals := 112 } D cy [.ref tr, .ref ro] [(tr, .inr (9, [.ref trw, .ref tra, .ref trb, .ref trc, .int tr_least, .int tr_bestLinks, .int tr_changeNumber, .int tr_changeHeight])), (trw, .inr (10, [.int trw_number, .int trw_lane, .int trw_looks])), (tra, .inl (cy, 8, .inl tra_a)), (ro, .inr (8, [.ref rok, .ref rov, .ref roh, .ref rot, .int ro_size])), (rok, .inl (cy, 8, .inl rok_a)), (roh, .inl (cy, 8, .inl roh_a)), (rot, .inl (cy, 8, .inl rot_a))] 0 0 (fun (u : Int32 × Int32 × Int32 × Int32 × Int32 × Int32 × (Nat → Int32)) => u = (fn_X9_seekChange tr_least tr_changeNumber tr_changeHeight trw_number trw_lane trw_looks tra_a ro_size rok_a roh_a rot_a) ∧ ((-1) ≤ u.2.2.2.1.toInt ∧ u.2.2.2.1.toInt ≤ 7)) (fun u => [(tr, .inr (9, [.ref trw, .ref tra, .ref trb, .ref trc, .int u.1, .int tr_bestLinks, .int u.2.1, .int u.2.2.1])), (trw, .inr (10, [.int u.2.2.2.1, .int u.2.2.2.2.1, .int u.2.2.2.2.2.1])), (tra, .inl (cy, 8, .inl u.2.2.2.2.2.2)), (ro, .inr (8, [.ref rok, .ref rov, .ref roh, .ref rot, .int ro_size])), (rok, .inl (cy, 8, .inl rok_a)), (roh, .inl (cy, 8, .inl roh_a)), (rot, .inl (cy, 8, .inl rot_a))]) := by
  refine wk_mk2Cv (by decide) (Nat.le_of_ble_eq_true rfl) ?_
  intro p e s m args below meth c A ls Q B hA hK hP hD hS hl hret
  obtain ⟨hx, hb, hr, hlocks, hml, hown, htb, hin⟩ := B
  have hl : lv_has ls 4 [(0, .ref tr), (1, .ref ro)] := hl
  have hF : (fn_X9_seekChange tr_least tr_changeNumber tr_changeHeight trw_number trw_lane trw_looks tra_a ro_size rok_a roh_a rot_a) = (fn_X9_seekChange tr_least tr_changeNumber tr_changeHeight trw_number trw_lane trw_looks tra_a ro_size rok_a roh_a rot_a) := rfl
  conv at hF => rhs; unfold fn_X9_seekChange
  refine lv_aload_n hx hb dX9_seekChange_0 rfl (lv_at hl 0 rfl) ?_
  refine lv_iconst (v := (-1)) hx hb dX9_seekChange_1 (by decide) ?_
  refine va_put (D := D) (ci := 9) (v := .int (-1)) (ty := .int) (C := RX9) (T := TX9) (N := 8) hx hb htb inX9 tyX9 tyX9_ok nmX9 hown hK hP hD hS 0 rfl rfl 6 (by decide) (htb _ tw_231) (fun _ h9 => h9) rfl (by decide +kernel) rfl rfl (Nat.le_of_ble_eq_true rfl) dX9_seekChange_2 (fun H locs hP hD hS => ?_)
  have hP : va_P D classes [(tr, .inr (9, [.ref trw, .ref tra, .ref trb, .ref trc, .int tr_least, .int tr_bestLinks, .int (-1), .int tr_changeHeight])), (trw, .inr (10, [.int trw_number, .int trw_lane, .int trw_looks])), (tra, .inl (cy, 8, .inl tra_a)), (ro, .inr (8, [.ref rok, .ref rov, .ref roh, .ref rot, .int ro_size])), (rok, .inl (cy, 8, .inl rok_a)), (roh, .inl (cy, 8, .inl roh_a)), (rot, .inl (cy, 8, .inl rot_a))] H := hP
  have hD : va_D A [(tr, .inr (9, [.ref trw, .ref tra, .ref trb, .ref trc, .int tr_least, .int tr_bestLinks, .int (-1), .int tr_changeHeight])), (trw, .inr (10, [.int trw_number, .int trw_lane, .int trw_looks])), (tra, .inl (cy, 8, .inl tra_a)), (ro, .inr (8, [.ref rok, .ref rov, .ref roh, .ref rot, .int ro_size])), (rok, .inl (cy, 8, .inl rok_a)), (roh, .inl (cy, 8, .inl roh_a)), (rot, .inl (cy, 8, .inl rot_a))] := hD
  refine lv_aload_n hx hb dX9_seekChange_5 rfl (lv_at hl 0 rfl) ?_
  refine lv_iconst (v := (-1)) hx hb dX9_seekChange_6 (by decide) ?_
  refine va_put (D := D) (ci := 9) (v := .int (-1)) (ty := .int) (C := RX9) (T := TX9) (N := 8) hx hb htb inX9 tyX9 tyX9_ok nmX9 hown hK hP hD hS 0 rfl rfl 7 (by decide) (htb _ tw_233) (fun _ h9 => h9) rfl (by decide +kernel) rfl rfl (Nat.le_of_ble_eq_true rfl) dX9_seekChange_7 (fun H locs hP hD hS => ?_)
  have hP : va_P D classes [(tr, .inr (9, [.ref trw, .ref tra, .ref trb, .ref trc, .int tr_least, .int tr_bestLinks, .int (-1), .int (-1)])), (trw, .inr (10, [.int trw_number, .int trw_lane, .int trw_looks])), (tra, .inl (cy, 8, .inl tra_a)), (ro, .inr (8, [.ref rok, .ref rov, .ref roh, .ref rot, .int ro_size])), (rok, .inl (cy, 8, .inl rok_a)), (roh, .inl (cy, 8, .inl roh_a)), (rot, .inl (cy, 8, .inl rot_a))] H := hP
  have hD : va_D A [(tr, .inr (9, [.ref trw, .ref tra, .ref trb, .ref trc, .int tr_least, .int tr_bestLinks, .int (-1), .int (-1)])), (trw, .inr (10, [.int trw_number, .int trw_lane, .int trw_looks])), (tra, .inl (cy, 8, .inl tra_a)), (ro, .inr (8, [.ref rok, .ref rov, .ref roh, .ref rot, .int ro_size])), (rok, .inl (cy, 8, .inl rok_a)), (roh, .inl (cy, 8, .inl roh_a)), (rot, .inl (cy, 8, .inl rot_a))] := hD
  refine lv_aload_n hx hb dX9_seekChange_10 rfl (lv_at hl 0 rfl) ?_
  refine lv_aload_n hx hb dX9_seekChange_11 rfl (lv_at hl 0 rfl) ?_
  refine lv_aload_n hx hb dX9_seekChange_12 rfl (lv_at hl 1 rfl) ?_
  refine lv_aload_n hx hb dX9_seekChange_13 rfl (lv_at hl 1 rfl) ?_
  refine va_get (D := D) (ci := 8) (v := .ref roh) (C := RX8) (T := TX8) (N := 5) hx hb htb inX8 hown hK hP 3 rfl rfl 2 (by decide) (htb _ tw_124) (fun _ h9 => h9) rfl dX9_seekChange_14 ?_
  refine wk_iV (As := [.ref ro, .ref roh]) (rest := [.ref tr]) (wc := [(tr, .inr (9, [.ref trw, .ref tra, .ref trb, .ref trc, .int tr_least, .int tr_bestLinks, .int (-1), .int (-1)])), (trw, .inr (10, [.int trw_number, .int trw_lane, .int trw_looks])), (ro, .inr (8, [.ref rok, .ref rov, .ref roh, .ref rot, .int ro_size])), (rok, .inl (cy, 8, .inl rok_a)), (rot, .inl (cy, 8, .inl rot_a)), (roh, .inl (cy, 8, .inl roh_a))]) (wr := [(tra, .inl (cy, 8, .inl tra_a))]) (n := 2) ⟨hx, hb, hml, hown, htb⟩ (c_X9_costOf l D cy tr trw tra trb trc ro rok rov roh rot roh tr_least tr_bestLinks (-1) (-1) trw_number trw_lane trw_looks ro_size rok_a rot_a roh_a  (show (-1) ≤ trw_number.toInt ∧ trw_number.toInt ≤ 7 from by omega) (show 0 ≤ ro_size.toInt ∧ ro_size.toInt ≤ 8 from by omega)) tw_637 tw_654 tw_635 tw_636 tw_70 rfl rfl (by decide +kernel) ⟨Nat.le_of_ble_eq_true rfl, Nat.le_of_ble_eq_true rfl⟩ hK hP hD hS hA [0, 1, 3, 4, 6, 5] [2] rfl rfl rfl rfl (by decide) 0 (ci := 9) rfl rfl rfl hl.1 rfl (Nat.le_of_ble_eq_true rfl) dX9_seekChange_17 ⟨Nat.le_of_ble_eq_true rfl, Nat.le_of_ble_eq_true rfl⟩ (fun r_1 u_2 H locs hw_3 hP hD hS => ?_)
  refine W.widen (k := 0) (n := 0) (by decide) (by decide) ?_
  obtain ⟨o_4, o_5, o_6⟩ := u_2
  obtain ⟨hw_3, k_7⟩ := hw_3
  have hw_3 : (r_1, o_4, o_5, o_6) = (fn_X9_costOf trw_number trw_lane trw_looks ro_size rok_a rot_a roh_a) := hw_3
  have k_7 : ((-1) ≤ o_4.toInt ∧ o_4.toInt ≤ 7) := k_7
  rw [← hw_3] at hF
  rw [pm2_mk r_1 (o_4, o_5, o_6), pm2_mk o_4 (o_5, o_6), pm2_mk o_5 o_6] at hF
  have hP : va_P D classes [(tra, .inl (cy, 8, .inl tra_a)), (tr, .inr (9, [.ref trw, .ref tra, .ref trb, .ref trc, .int tr_least, .int tr_bestLinks, .int (-1), .int (-1)])), (trw, .inr (10, [.int o_4, .int o_5, .int o_6])), (ro, .inr (8, [.ref rok, .ref rov, .ref roh, .ref rot, .int ro_size])), (rok, .inl (cy, 8, .inl rok_a)), (rot, .inl (cy, 8, .inl rot_a)), (roh, .inl (cy, 8, .inl roh_a))] H := hP
  have hD : va_D A [(tra, .inl (cy, 8, .inl tra_a)), (tr, .inr (9, [.ref trw, .ref tra, .ref trb, .ref trc, .int tr_least, .int tr_bestLinks, .int (-1), .int (-1)])), (trw, .inr (10, [.int o_4, .int o_5, .int o_6])), (ro, .inr (8, [.ref rok, .ref rov, .ref roh, .ref rot, .int ro_size])), (rok, .inl (cy, 8, .inl rok_a)), (rot, .inl (cy, 8, .inl rot_a)), (roh, .inl (cy, 8, .inl roh_a))] := hD
  refine va_put (D := D) (ci := 9) (v := .int r_1) (ty := .int) (C := RX9) (T := TX9) (N := 8) hx hb htb inX9 tyX9 tyX9_ok nmX9 hown hK hP hD hS 1 rfl rfl 4 (by decide) (htb _ tw_227) (fun _ h9 => h9) rfl (by decide +kernel) rfl rfl (Nat.le_of_ble_eq_true rfl) dX9_seekChange_20 (fun H locs hP hD hS => ?_)
  have hP : va_P D classes [(tra, .inl (cy, 8, .inl tra_a)), (tr, .inr (9, [.ref trw, .ref tra, .ref trb, .ref trc, .int r_1, .int tr_bestLinks, .int (-1), .int (-1)])), (trw, .inr (10, [.int o_4, .int o_5, .int o_6])), (ro, .inr (8, [.ref rok, .ref rov, .ref roh, .ref rot, .int ro_size])), (rok, .inl (cy, 8, .inl rok_a)), (rot, .inl (cy, 8, .inl rot_a)), (roh, .inl (cy, 8, .inl roh_a))] H := hP
  have hD : va_D A [(tra, .inl (cy, 8, .inl tra_a)), (tr, .inr (9, [.ref trw, .ref tra, .ref trb, .ref trc, .int r_1, .int tr_bestLinks, .int (-1), .int (-1)])), (trw, .inr (10, [.int o_4, .int o_5, .int o_6])), (ro, .inr (8, [.ref rok, .ref rov, .ref roh, .ref rot, .int ro_size])), (rok, .inl (cy, 8, .inl rok_a)), (rot, .inl (cy, 8, .inl rot_a)), (roh, .inl (cy, 8, .inl roh_a))] := hD
  refine lv_aload_n hx hb dX9_seekChange_23 rfl (lv_at hl 1 rfl) ?_
  refine lv_aload_n hx hb dX9_seekChange_24 rfl (lv_at hl 1 rfl) ?_
  refine va_get (D := D) (ci := 8) (v := .ref roh) (C := RX8) (T := TX8) (N := 5) hx hb htb inX8 hown hK hP 3 rfl rfl 2 (by decide) (htb _ tw_124) (fun _ h9 => h9) rfl dX9_seekChange_25 ?_
  refine lv_aload_n hx hb dX9_seekChange_28 rfl (lv_at hl 0 rfl) ?_
  refine va_get (D := D) (ci := 9) (v := .ref tra) (C := RX9) (T := TX9) (N := 8) hx hb htb inX9 hown hK hP 1 rfl rfl 1 (by decide) (htb _ tw_224) (fun _ h9 => h9) rfl dX9_seekChange_29 ?_
  refine wk_vS (As := [.ref ro, .ref roh, .ref tra]) (rest := []) (wc := [(ro, .inr (8, [.ref rok, .ref rov, .ref roh, .ref rot, .int ro_size])), (roh, .inl (cy, 8, .inl roh_a)), (tra, .inl (cy, 8, .inl tra_a))]) (wr := [(tr, .inr (9, [.ref trw, .ref tra, .ref trb, .ref trc, .int r_1, .int tr_bestLinks, .int (-1), .int (-1)])), (trw, .inr (10, [.int o_4, .int o_5, .int o_6])), (rok, .inl (cy, 8, .inl rok_a)), (rot, .inl (cy, 8, .inl rot_a))]) (n := 3) ⟨hx, hb, hml, hown, htb⟩ (c_X9_copyHeights l D cy ro rok rov roh rot roh tra ro_size roh_a tra_a  (show 0 ≤ ro_size.toInt ∧ ro_size.toInt ≤ 8 from by omega)) tw_511 tw_509 tw_510 tw_70 rfl rfl (by decide +kernel) ⟨Nat.le_of_ble_eq_true rfl, Nat.le_of_ble_eq_true rfl⟩ hK hP hD hS hA [3, 6, 0] [1, 2, 4, 5] rfl rfl rfl rfl (by decide) rfl hl.1 rfl (Nat.le_of_ble_eq_true rfl) dX9_seekChange_32 ⟨Nat.le_of_ble_eq_true rfl, Nat.le_of_ble_eq_true rfl⟩ (fun u_9 H locs hw_10 hP hD hS => ?_)
  refine W.widen (k := 0) (n := 0) (by decide) (by decide) ?_
  obtain ⟨o_11, rfl⟩ : ∃ z, z = u_9 := ⟨_, rfl⟩
  have hw_10 : o_11 = (fn_X9_copyHeights ro_size roh_a tra_a) := hw_10
  rw [← hw_10] at hF
  rw [pm1_mk o_11] at hF
  have hP : va_P D classes [(tr, .inr (9, [.ref trw, .ref tra, .ref trb, .ref trc, .int r_1, .int tr_bestLinks, .int (-1), .int (-1)])), (trw, .inr (10, [.int o_4, .int o_5, .int o_6])), (rok, .inl (cy, 8, .inl rok_a)), (rot, .inl (cy, 8, .inl rot_a)), (ro, .inr (8, [.ref rok, .ref rov, .ref roh, .ref rot, .int ro_size])), (roh, .inl (cy, 8, .inl roh_a)), (tra, .inl (cy, 8, .inl o_11))] H := hP
  have hD : va_D A [(tr, .inr (9, [.ref trw, .ref tra, .ref trb, .ref trc, .int r_1, .int tr_bestLinks, .int (-1), .int (-1)])), (trw, .inr (10, [.int o_4, .int o_5, .int o_6])), (rok, .inl (cy, 8, .inl rok_a)), (rot, .inl (cy, 8, .inl rot_a)), (ro, .inr (8, [.ref rok, .ref rov, .ref roh, .ref rot, .int ro_size])), (roh, .inl (cy, 8, .inl roh_a)), (tra, .inl (cy, 8, .inl o_11))] := hD
  refine lv_iconst (v := 0) hx hb dX9_seekChange_35 (by decide) ?_
  refine lv_istore_n (lv' := [(2, .int 0), (0, .ref tr), (1, .ref ro)]) hx hb dX9_seekChange_36 rfl hl (by decide) rfl (fun ls hl => ?_)
  have hlp_37 : ∀ (fu_37 : Nat) (x2_37 : Int32) (tr_least_37 : Int32) (tr_changeNumber_37 : Int32) (tr_changeHeight_37 : Int32) (trw_number_37 : Int32) (trw_lane_37 : Int32) (trw_looks_37 : Int32) (tra_a_37 : Nat → Int32) (H : Heap) (locs : List Loc) (ls : Array Slot), (0 ≤ x2_37.toInt ∧ x2_37.toInt ≤ 8) → ((-1) ≤ trw_number_37.toInt ∧ trw_number_37.toInt ≤ 7) → 8 - x2_37.toInt < (fu_37 : Int) → ((fn_X9_seekChange tr_least tr_changeNumber tr_changeHeight trw_number trw_lane trw_looks tra_a ro_size rok_a roh_a rot_a) = (pm2 (lp_X9_seekChange_37 tr_least tr_changeNumber tr_changeHeight trw_number trw_lane trw_looks tra_a ro_size rok_a roh_a rot_a o_4 o_5 o_6 r_1 o_11 fu_37 x2_37 tr_least_37 tr_changeNumber_37 tr_changeHeight_37 trw_number_37 trw_lane_37 trw_looks_37 tra_a_37) (fun x2_37 t_ => (pm2 (t_) (fun tr_least_37 t_ => (pm2 (t_) (fun tr_changeNumber_37 t_ => (pm2 (t_) (fun tr_changeHeight_37 t_ => (pm2 (t_) (fun trw_number_37 t_ => (pm2 (t_) (fun trw_lane_37 t_ => (pm2 (t_) (fun trw_looks_37 tra_a_37 => (if tr_changeNumber_37 = (-1) then ((-1), tr_changeNumber_37, tr_changeHeight_37, trw_number_37, trw_lane_37, trw_looks_37, tra_a_37) else (tr_least_37, tr_changeNumber_37, tr_changeHeight_37, trw_number_37, trw_lane_37, trw_looks_37, tra_a_37))))))))))))))))) → va_P D classes [(tr, .inr (9, [.ref trw, .ref tra, .ref trb, .ref trc, .int tr_least_37, .int tr_bestLinks, .int tr_changeNumber_37, .int tr_changeHeight_37])), (trw, .inr (10, [.int trw_number_37, .int trw_lane_37, .int trw_looks_37])), (rok, .inl (cy, 8, .inl rok_a)), (rot, .inl (cy, 8, .inl rot_a)), (ro, .inr (8, [.ref rok, .ref rov, .ref roh, .ref rot, .int ro_size])), (roh, .inl (cy, 8, .inl roh_a)), (tra, .inl (cy, 8, .inl tra_a_37))] H → va_D A [(tr, .inr (9, [.ref trw, .ref tra, .ref trb, .ref trc, .int tr_least_37, .int tr_bestLinks, .int tr_changeNumber_37, .int tr_changeHeight_37])), (trw, .inr (10, [.int trw_number_37, .int trw_lane_37, .int trw_looks_37])), (rok, .inl (cy, 8, .inl rok_a)), (rot, .inl (cy, 8, .inl rot_a)), (ro, .inr (8, [.ref rok, .ref rov, .ref roh, .ref rot, .int ro_size])), (roh, .inl (cy, 8, .inl roh_a)), (tra, .inl (cy, 8, .inl tra_a_37))] → va_S A s.heap H locs → lv_has ls 4 [(2, .int x2_37), (0, .ref tr), (1, .ref ro)] → W p l e { frames := 5, cells := 0, slots := 0, locals := 112 } s m args below meth c H locs 0 0 Q (F0 m 37 ls []) := by
    intro fu_37
    induction fu_37 with
    | zero =>
      intro x2_37 tr_least_37 tr_changeNumber_37 tr_changeHeight_37 trw_number_37 trw_lane_37 trw_looks_37 tra_a_37 H locs ls hi_37_0 hi_37_1 hm hF hP hD hS hl
      exfalso; omega
    | succ fu_37 ih_37 =>
      intro x2_37 tr_least_37 tr_changeNumber_37 tr_changeHeight_37 trw_number_37 trw_lane_37 trw_looks_37 tra_a_37 H locs ls hi_37_0 hi_37_1 hm hF hP hD hS hl
      rw [lp_X9_seekChange_37] at hF
      refine lv_iload_n hx hb dX9_seekChange_37 rfl (lv_at hl 0 rfl) ?_
      refine lv_aload_n hx hb dX9_seekChange_38 rfl (lv_at hl 2 rfl) ?_
      refine va_get (D := D) (ci := 8) (v := .int ro_size) (C := RX8) (T := TX8) (N := 5) hx hb htb inX8 hown hK hP 4 rfl rfl 4 (by decide) (htb _ tw_132) (fun _ h9 => h9) rfl dX9_seekChange_39 ?_
      refine lv_icmp_ge (tgt := 89) hx hb dX9_seekChange_42 (by decide) (fun c_12 => ?_) (fun c_12 => ?_)
      · have k_12 : ro_size.toInt ≤ x2_37.toInt := wk_le c_12
        replace hF := hF.trans (pm2_p1 c_12)
        rw [pm2_mk x2_37 (tr_least_37, tr_changeNumber_37, tr_changeHeight_37, trw_number_37, trw_lane_37, trw_looks_37, tra_a_37), pm2_mk tr_least_37 (tr_changeNumber_37, tr_changeHeight_37, trw_number_37, trw_lane_37, trw_looks_37, tra_a_37), pm2_mk tr_changeNumber_37 (tr_changeHeight_37, trw_number_37, trw_lane_37, trw_looks_37, tra_a_37), pm2_mk tr_changeHeight_37 (trw_number_37, trw_lane_37, trw_looks_37, tra_a_37), pm2_mk trw_number_37 (trw_lane_37, trw_looks_37, tra_a_37), pm2_mk trw_lane_37 (trw_looks_37, tra_a_37), pm2_mk trw_looks_37 tra_a_37] at hF
        refine lv_aload_n hx hb dX9_seekChange_89 rfl (lv_at hl 1 rfl) ?_
        refine va_get (D := D) (ci := 9) (v := .int tr_changeNumber_37) (C := RX9) (T := TX9) (N := 8) hx hb htb inX9 hown hK hP 0 rfl rfl 6 (by decide) (htb _ tw_231) (fun _ h9 => h9) rfl dX9_seekChange_90 ?_
        refine lv_iconst (v := (-1)) hx hb dX9_seekChange_93 (by decide) ?_
        refine lv_icmp_ne (tgt := 102) hx hb dX9_seekChange_94 (by decide) (fun c_13 => ?_) (fun c_13 => ?_)
        · have k_13 : ¬ tr_changeNumber_37.toInt = (-1) := wk_neq c_13
          replace hF := hF.trans (if_neg c_13)
          refine W.widen (k := 0) (n := 0) (by decide) (by decide) ?_
          exact hret (tr_least_37, tr_changeNumber_37, tr_changeHeight_37, trw_number_37, trw_lane_37, trw_looks_37, tra_a_37) _ _ _ 102 (wk_sub9 (is := [0, 1, 6, 4, 2, 5, 3]) hP rfl) (hD.sub [0, 1, 6, 4, 2, 5, 3] rfl rfl) hS dX9_seekChange_102 ⟨hF.symm, (show ((-1) ≤ trw_number_37.toInt ∧ trw_number_37.toInt ≤ 7) from by omega)⟩
        · have k_13 : tr_changeNumber_37.toInt = (-1) := wk_eq c_13
          replace hF := hF.trans (if_pos c_13)
          refine lv_aload_n hx hb dX9_seekChange_97 rfl (lv_at hl 1 rfl) ?_
          refine lv_iconst (v := (-1)) hx hb dX9_seekChange_98 (by decide) ?_
          refine va_put (D := D) (ci := 9) (v := .int (-1)) (ty := .int) (C := RX9) (T := TX9) (N := 8) hx hb htb inX9 tyX9 tyX9_ok nmX9 hown hK hP hD hS 0 rfl rfl 4 (by decide) (htb _ tw_227) (fun _ h9 => h9) rfl (by decide +kernel) rfl rfl (Nat.le_of_ble_eq_true rfl) dX9_seekChange_99 (fun H locs hP hD hS => ?_)
          have hP : va_P D classes [(tr, .inr (9, [.ref trw, .ref tra, .ref trb, .ref trc, .int (-1), .int tr_bestLinks, .int tr_changeNumber_37, .int tr_changeHeight_37])), (trw, .inr (10, [.int trw_number_37, .int trw_lane_37, .int trw_looks_37])), (rok, .inl (cy, 8, .inl rok_a)), (rot, .inl (cy, 8, .inl rot_a)), (ro, .inr (8, [.ref rok, .ref rov, .ref roh, .ref rot, .int ro_size])), (roh, .inl (cy, 8, .inl roh_a)), (tra, .inl (cy, 8, .inl tra_a_37))] H := hP
          have hD : va_D A [(tr, .inr (9, [.ref trw, .ref tra, .ref trb, .ref trc, .int (-1), .int tr_bestLinks, .int tr_changeNumber_37, .int tr_changeHeight_37])), (trw, .inr (10, [.int trw_number_37, .int trw_lane_37, .int trw_looks_37])), (rok, .inl (cy, 8, .inl rok_a)), (rot, .inl (cy, 8, .inl rot_a)), (ro, .inr (8, [.ref rok, .ref rov, .ref roh, .ref rot, .int ro_size])), (roh, .inl (cy, 8, .inl roh_a)), (tra, .inl (cy, 8, .inl tra_a_37))] := hD
          refine W.widen (k := 0) (n := 0) (by decide) (by decide) ?_
          exact hret ((-1), tr_changeNumber_37, tr_changeHeight_37, trw_number_37, trw_lane_37, trw_looks_37, tra_a_37) _ _ _ 102 (wk_sub9 (is := [0, 1, 6, 4, 2, 5, 3]) hP rfl) (hD.sub [0, 1, 6, 4, 2, 5, 3] rfl rfl) hS dX9_seekChange_102 ⟨hF.symm, (show ((-1) ≤ trw_number_37.toInt ∧ trw_number_37.toInt ≤ 7) from by omega)⟩
      · have k_12 : ¬ ro_size.toInt ≤ x2_37.toInt := wk_nle c_12
        replace hF := hF.trans (pm2_n1 c_12)
        refine lv_iconst (v := 1) hx hb dX9_seekChange_45 (by decide) ?_
        refine lv_istore_n (lv' := [(3, .int 1), (2, .int x2_37), (0, .ref tr), (1, .ref ro)]) hx hb dX9_seekChange_46 rfl hl (by decide) rfl (fun ls hl => ?_)
        have hlp_47 : ∀ (fu_47 : Nat) (x3_47 : Int32) (tr_least_47 : Int32) (tr_changeNumber_47 : Int32) (tr_changeHeight_47 : Int32) (trw_number_47 : Int32) (trw_lane_47 : Int32) (trw_looks_47 : Int32) (tra_a_47 : Nat → Int32) (H : Heap) (locs : List Loc) (ls : Array Slot), (1 ≤ x3_47.toInt ∧ x3_47.toInt ≤ 5) → ((-1) ≤ trw_number_47.toInt ∧ trw_number_47.toInt ≤ 7) → 5 - x3_47.toInt < (fu_47 : Int) → ((fn_X9_seekChange tr_least tr_changeNumber tr_changeHeight trw_number trw_lane trw_looks tra_a ro_size rok_a roh_a rot_a) = (pm2 (pm2 (lp_X9_seekChange_47 tr_least tr_changeNumber tr_changeHeight trw_number trw_lane trw_looks tra_a ro_size rok_a roh_a rot_a o_4 o_5 o_6 r_1 o_11 x2_37 tr_least_37 tr_changeNumber_37 tr_changeHeight_37 trw_number_37 trw_lane_37 trw_looks_37 tra_a_37 fu_47 x3_47 tr_least_47 tr_changeNumber_47 tr_changeHeight_47 trw_number_47 trw_lane_47 trw_looks_47 tra_a_47) (fun x3_47 t_ => (pm2 (t_) (fun tr_least_47 t_ => (pm2 (t_) (fun tr_changeNumber_47 t_ => (pm2 (t_) (fun tr_changeHeight_47 t_ => (pm2 (t_) (fun trw_number_47 t_ => (pm2 (t_) (fun trw_lane_47 t_ => (pm2 (t_) (fun trw_looks_47 tra_a_47 => (lp_X9_seekChange_37 tr_least tr_changeNumber tr_changeHeight trw_number trw_lane trw_looks tra_a ro_size rok_a roh_a rot_a o_4 o_5 o_6 r_1 o_11 fu_37 (x2_37 + 1) tr_least_47 tr_changeNumber_47 tr_changeHeight_47 trw_number_47 trw_lane_47 trw_looks_47 (upd tra_a_47 x2_37.toNatClampNeg (roh_a x2_37.toNatClampNeg))))))))))))))))) (fun x2_37 t_ => (pm2 (t_) (fun tr_least_37 t_ => (pm2 (t_) (fun tr_changeNumber_37 t_ => (pm2 (t_) (fun tr_changeHeight_37 t_ => (pm2 (t_) (fun trw_number_37 t_ => (pm2 (t_) (fun trw_lane_37 t_ => (pm2 (t_) (fun trw_looks_37 tra_a_37 => (if tr_changeNumber_37 = (-1) then ((-1), tr_changeNumber_37, tr_changeHeight_37, trw_number_37, trw_lane_37, trw_looks_37, tra_a_37) else (tr_least_37, tr_changeNumber_37, tr_changeHeight_37, trw_number_37, trw_lane_37, trw_looks_37, tra_a_37))))))))))))))))) → va_P D classes [(tr, .inr (9, [.ref trw, .ref tra, .ref trb, .ref trc, .int tr_least_47, .int tr_bestLinks, .int tr_changeNumber_47, .int tr_changeHeight_47])), (trw, .inr (10, [.int trw_number_47, .int trw_lane_47, .int trw_looks_47])), (rok, .inl (cy, 8, .inl rok_a)), (rot, .inl (cy, 8, .inl rot_a)), (ro, .inr (8, [.ref rok, .ref rov, .ref roh, .ref rot, .int ro_size])), (roh, .inl (cy, 8, .inl roh_a)), (tra, .inl (cy, 8, .inl tra_a_47))] H → va_D A [(tr, .inr (9, [.ref trw, .ref tra, .ref trb, .ref trc, .int tr_least_47, .int tr_bestLinks, .int tr_changeNumber_47, .int tr_changeHeight_47])), (trw, .inr (10, [.int trw_number_47, .int trw_lane_47, .int trw_looks_47])), (rok, .inl (cy, 8, .inl rok_a)), (rot, .inl (cy, 8, .inl rot_a)), (ro, .inr (8, [.ref rok, .ref rov, .ref roh, .ref rot, .int ro_size])), (roh, .inl (cy, 8, .inl roh_a)), (tra, .inl (cy, 8, .inl tra_a_47))] → va_S A s.heap H locs → lv_has ls 4 [(3, .int x3_47), (2, .int x2_37), (0, .ref tr), (1, .ref ro)] → W p l e { frames := 5, cells := 0, slots := 0, locals := 112 } s m args below meth c H locs 0 0 Q (F0 m 47 ls []) := by
          intro fu_47
          induction fu_47 with
          | zero =>
            intro x3_47 tr_least_47 tr_changeNumber_47 tr_changeHeight_47 trw_number_47 trw_lane_47 trw_looks_47 tra_a_47 H locs ls hi_47_0 hi_47_1 hm hF hP hD hS hl
            exfalso; omega
          | succ fu_47 ih_47 =>
            intro x3_47 tr_least_47 tr_changeNumber_47 tr_changeHeight_47 trw_number_47 trw_lane_47 trw_looks_47 tra_a_47 H locs ls hi_47_0 hi_47_1 hm hF hP hD hS hl
            rw [lp_X9_seekChange_47] at hF
            refine lv_iload_n hx hb dX9_seekChange_47 rfl (lv_at hl 0 rfl) ?_
            refine lv_iconst (v := 4) hx hb dX9_seekChange_48 (by decide) ?_
            refine lv_icmp_gt (tgt := 71) hx hb dX9_seekChange_49 (by decide) (fun c_14 => ?_) (fun c_14 => ?_)
            · have k_14 : 4 < x3_47.toInt := wk_lt c_14
              replace hF := hF.trans (pm2_p2 c_14)
              rw [pm2_mk x3_47 (tr_least_47, tr_changeNumber_47, tr_changeHeight_47, trw_number_47, trw_lane_47, trw_looks_47, tra_a_47), pm2_mk tr_least_47 (tr_changeNumber_47, tr_changeHeight_47, trw_number_47, trw_lane_47, trw_looks_47, tra_a_47), pm2_mk tr_changeNumber_47 (tr_changeHeight_47, trw_number_47, trw_lane_47, trw_looks_47, tra_a_47), pm2_mk tr_changeHeight_47 (trw_number_47, trw_lane_47, trw_looks_47, tra_a_47), pm2_mk trw_number_47 (trw_lane_47, trw_looks_47, tra_a_47), pm2_mk trw_lane_47 (trw_looks_47, tra_a_47), pm2_mk trw_looks_47 tra_a_47] at hF
              refine lv_aload_n hx hb dX9_seekChange_71 rfl (lv_at hl 2 rfl) ?_
              refine va_get (D := D) (ci := 9) (v := .ref tra) (C := RX9) (T := TX9) (N := 8) hx hb htb inX9 hown hK hP 0 rfl rfl 1 (by decide) (htb _ tw_224) (fun _ h9 => h9) rfl dX9_seekChange_72 ?_
              refine lv_iload_n hx hb dX9_seekChange_75 rfl (lv_at hl 1 rfl) ?_
              refine lv_aload_n hx hb dX9_seekChange_76 rfl (lv_at hl 3 rfl) ?_
              refine va_get (D := D) (ci := 8) (v := .ref roh) (C := RX8) (T := TX8) (N := 5) hx hb htb inX8 hown hK hP 4 rfl rfl 2 (by decide) (htb _ tw_124) (fun _ h9 => h9) rfl dX9_seekChange_77 ?_
              refine lv_iload_n hx hb dX9_seekChange_80 rfl (lv_at hl 1 rfl) ?_
              refine va_iald hx hb hK hP 5 0 rfl rfl (show vp_in x2_37 8 from vp_in_iff.mpr (show 0 ≤ x2_37.toInt ∧ x2_37.toInt < ((8 : Nat) : Int) from by omega)) dX9_seekChange_81 ?_
              refine va_iast hx hb hK hP hD hS 6 0 rfl rfl (show vp_in x2_37 8 from vp_in_iff.mpr (show 0 ≤ x2_37.toInt ∧ x2_37.toInt < ((8 : Nat) : Int) from by omega)) dX9_seekChange_82 (fun H locs hP hD hS => ?_)
              have hP : va_P D classes [(tr, .inr (9, [.ref trw, .ref tra, .ref trb, .ref trc, .int tr_least_47, .int tr_bestLinks, .int tr_changeNumber_47, .int tr_changeHeight_47])), (trw, .inr (10, [.int trw_number_47, .int trw_lane_47, .int trw_looks_47])), (rok, .inl (cy, 8, .inl rok_a)), (rot, .inl (cy, 8, .inl rot_a)), (ro, .inr (8, [.ref rok, .ref rov, .ref roh, .ref rot, .int ro_size])), (roh, .inl (cy, 8, .inl roh_a)), (tra, .inl (cy, 8, .inl (upd tra_a_47 x2_37.toNatClampNeg (roh_a x2_37.toNatClampNeg))))] H := hP
              have hD : va_D A [(tr, .inr (9, [.ref trw, .ref tra, .ref trb, .ref trc, .int tr_least_47, .int tr_bestLinks, .int tr_changeNumber_47, .int tr_changeHeight_47])), (trw, .inr (10, [.int trw_number_47, .int trw_lane_47, .int trw_looks_47])), (rok, .inl (cy, 8, .inl rok_a)), (rot, .inl (cy, 8, .inl rot_a)), (ro, .inr (8, [.ref rok, .ref rov, .ref roh, .ref rot, .int ro_size])), (roh, .inl (cy, 8, .inl roh_a)), (tra, .inl (cy, 8, .inl (upd tra_a_47 x2_37.toNatClampNeg (roh_a x2_37.toNatClampNeg))))] := hD
              refine lv_iinc (v := (x2_37 + 1)) (lv' := [(2, .int (x2_37 + 1)), (3, .int x3_47), (0, .ref tr), (1, .ref ro)]) hx hb dX9_seekChange_83 hl (k := 1) rfl rfl (by decide) rfl (fun ls hl => ?_)
              have k_15 : (x2_37 + 1).toInt = x2_37.toInt + 1 := wk_add x2_37.toInt 1 rfl rfl (by omega) (by omega)
              refine lv_goto (tgt := 37) hx hb dX9_seekChange_86 (by decide) ?_
              exact ih_37 (x2_37 + 1) tr_least_47 tr_changeNumber_47 tr_changeHeight_47 trw_number_47 trw_lane_47 trw_looks_47 (upd tra_a_47 x2_37.toNatClampNeg (roh_a x2_37.toNatClampNeg)) _ _ _ (show 0 ≤ (x2_37 + 1).toInt ∧ (x2_37 + 1).toInt ≤ 8 from by omega) (show (-1) ≤ trw_number_47.toInt ∧ trw_number_47.toInt ≤ 7 from by omega) (show 8 - (x2_37 + 1).toInt < ((fu_37 : Nat) : Int) from by omega) hF hP hD hS (lv_sub hl [0, 2, 3] rfl)
            · have k_14 : ¬ 4 < x3_47.toInt := wk_nlt c_14
              replace hF := hF.trans (pm2_n2 c_14)
              refine lv_aload_n hx hb dX9_seekChange_52 rfl (lv_at hl 2 rfl) ?_
              refine va_get (D := D) (ci := 9) (v := .ref tra) (C := RX9) (T := TX9) (N := 8) hx hb htb inX9 hown hK hP 0 rfl rfl 1 (by decide) (htb _ tw_224) (fun _ h9 => h9) rfl dX9_seekChange_53 ?_
              refine lv_iload_n hx hb dX9_seekChange_56 rfl (lv_at hl 1 rfl) ?_
              refine lv_iload_n hx hb dX9_seekChange_57 rfl (lv_at hl 0 rfl) ?_
              refine va_iast hx hb hK hP hD hS 6 0 rfl rfl (show vp_in x2_37 8 from vp_in_iff.mpr (show 0 ≤ x2_37.toInt ∧ x2_37.toInt < ((8 : Nat) : Int) from by omega)) dX9_seekChange_58 (fun H locs hP hD hS => ?_)
              have hP : va_P D classes [(tr, .inr (9, [.ref trw, .ref tra, .ref trb, .ref trc, .int tr_least_47, .int tr_bestLinks, .int tr_changeNumber_47, .int tr_changeHeight_47])), (trw, .inr (10, [.int trw_number_47, .int trw_lane_47, .int trw_looks_47])), (rok, .inl (cy, 8, .inl rok_a)), (rot, .inl (cy, 8, .inl rot_a)), (ro, .inr (8, [.ref rok, .ref rov, .ref roh, .ref rot, .int ro_size])), (roh, .inl (cy, 8, .inl roh_a)), (tra, .inl (cy, 8, .inl (upd tra_a_47 x2_37.toNatClampNeg x3_47)))] H := hP
              have hD : va_D A [(tr, .inr (9, [.ref trw, .ref tra, .ref trb, .ref trc, .int tr_least_47, .int tr_bestLinks, .int tr_changeNumber_47, .int tr_changeHeight_47])), (trw, .inr (10, [.int trw_number_47, .int trw_lane_47, .int trw_looks_47])), (rok, .inl (cy, 8, .inl rok_a)), (rot, .inl (cy, 8, .inl rot_a)), (ro, .inr (8, [.ref rok, .ref rov, .ref roh, .ref rot, .int ro_size])), (roh, .inl (cy, 8, .inl roh_a)), (tra, .inl (cy, 8, .inl (upd tra_a_47 x2_37.toNatClampNeg x3_47)))] := hD
              refine lv_aload_n hx hb dX9_seekChange_59 rfl (lv_at hl 2 rfl) ?_
              refine lv_aload_n hx hb dX9_seekChange_60 rfl (lv_at hl 3 rfl) ?_
              refine lv_iload_n hx hb dX9_seekChange_61 rfl (lv_at hl 1 rfl) ?_
              refine wk_vV (As := [.ref ro, .int x2_37]) (rest := []) (wc := [(tr, .inr (9, [.ref trw, .ref tra, .ref trb, .ref trc, .int tr_least_47, .int tr_bestLinks, .int tr_changeNumber_47, .int tr_changeHeight_47])), (trw, .inr (10, [.int trw_number_47, .int trw_lane_47, .int trw_looks_47])), (tra, .inl (cy, 8, .inl (upd tra_a_47 x2_37.toNatClampNeg x3_47))), (ro, .inr (8, [.ref rok, .ref rov, .ref roh, .ref rot, .int ro_size])), (rok, .inl (cy, 8, .inl rok_a)), (rot, .inl (cy, 8, .inl rot_a))]) (wr := [(roh, .inl (cy, 8, .inl roh_a))]) (n := 2) ⟨hx, hb, hml, hown, htb⟩ (c_X9_weighChange l D cy tr trw tra trb trc ro rok rov roh rot tr_least_47 tr_bestLinks tr_changeNumber_47 tr_changeHeight_47 trw_number_47 trw_lane_47 trw_looks_47 (upd tra_a_47 x2_37.toNatClampNeg x3_47) ro_size rok_a rot_a x2_37 (show (-1) ≤ trw_number_47.toInt ∧ trw_number_47.toInt ≤ 7 from by omega) (show 0 ≤ ro_size.toInt ∧ ro_size.toInt ≤ 8 from by omega) (show 0 ≤ x2_37.toInt ∧ x2_37.toInt ≤ 7 from by omega)) tw_674 tw_671 tw_673 tw_18 tw_70 rfl rfl (by decide +kernel) ⟨Nat.le_of_ble_eq_true rfl, Nat.le_of_ble_eq_true rfl⟩ hK hP hD hS hA [0, 1, 6, 4, 2, 3] [5] rfl rfl rfl rfl (by decide) 0 (ci := 9) rfl rfl rfl hl.1 rfl (Nat.le_of_ble_eq_true rfl) dX9_seekChange_62 ⟨Nat.le_of_ble_eq_true rfl, Nat.le_of_ble_eq_true rfl⟩ (fun u_17 H locs hw_18 hP hD hS => ?_)
              refine W.widen (k := 0) (n := 0) (by decide) (by decide) ?_
              obtain ⟨o_19, o_20, o_21, o_22, o_23, o_24⟩ := u_17
              obtain ⟨hw_18, k_25⟩ := hw_18
              have hw_18 : (o_19, o_20, o_21, o_22, o_23, o_24) = (fn_X9_weighChange tr_least_47 tr_changeNumber_47 tr_changeHeight_47 trw_number_47 trw_lane_47 trw_looks_47 (upd tra_a_47 x2_37.toNatClampNeg x3_47) ro_size rok_a rot_a x2_37) := hw_18
              have k_25 : ((-1) ≤ o_22.toInt ∧ o_22.toInt ≤ 7) := k_25
              rw [← hw_18] at hF
              rw [pm2_mk o_19 (o_20, o_21, o_22, o_23, o_24), pm2_mk o_20 (o_21, o_22, o_23, o_24), pm2_mk o_21 (o_22, o_23, o_24), pm2_mk o_22 (o_23, o_24), pm2_mk o_23 o_24] at hF
              have hP : va_P D classes [(roh, .inl (cy, 8, .inl roh_a)), (tr, .inr (9, [.ref trw, .ref tra, .ref trb, .ref trc, .int o_19, .int tr_bestLinks, .int o_20, .int o_21])), (trw, .inr (10, [.int o_22, .int o_23, .int o_24])), (tra, .inl (cy, 8, .inl (upd tra_a_47 x2_37.toNatClampNeg x3_47))), (ro, .inr (8, [.ref rok, .ref rov, .ref roh, .ref rot, .int ro_size])), (rok, .inl (cy, 8, .inl rok_a)), (rot, .inl (cy, 8, .inl rot_a))] H := hP
              have hD : va_D A [(roh, .inl (cy, 8, .inl roh_a)), (tr, .inr (9, [.ref trw, .ref tra, .ref trb, .ref trc, .int o_19, .int tr_bestLinks, .int o_20, .int o_21])), (trw, .inr (10, [.int o_22, .int o_23, .int o_24])), (tra, .inl (cy, 8, .inl (upd tra_a_47 x2_37.toNatClampNeg x3_47))), (ro, .inr (8, [.ref rok, .ref rov, .ref roh, .ref rot, .int ro_size])), (rok, .inl (cy, 8, .inl rok_a)), (rot, .inl (cy, 8, .inl rot_a))] := hD
              refine lv_iinc (v := (x3_47 + 1)) (lv' := [(3, .int (x3_47 + 1)), (2, .int x2_37), (0, .ref tr), (1, .ref ro)]) hx hb dX9_seekChange_65 hl (k := 0) rfl rfl (by decide) rfl (fun ls hl => ?_)
              have k_26 : (x3_47 + 1).toInt = x3_47.toInt + 1 := wk_add x3_47.toInt 1 rfl rfl (by omega) (by omega)
              refine lv_goto (tgt := 47) hx hb dX9_seekChange_68 (by decide) ?_
              exact ih_47 (x3_47 + 1) o_19 o_20 o_21 o_22 o_23 o_24 (upd tra_a_47 x2_37.toNatClampNeg x3_47) _ _ _ (show 1 ≤ (x3_47 + 1).toInt ∧ (x3_47 + 1).toInt ≤ 5 from by omega) (show (-1) ≤ o_22.toInt ∧ o_22.toInt ≤ 7 from by omega) (show 5 - (x3_47 + 1).toInt < ((fu_47 : Nat) : Int) from by omega) hF (wk_sub9 (is := [1, 2, 5, 6, 4, 0, 3]) hP rfl) (hD.sub [1, 2, 5, 6, 4, 0, 3] rfl rfl) hS (lv_sub hl [0, 1, 2, 3] rfl)
        exact hlp_47 6 1 tr_least_37 tr_changeNumber_37 tr_changeHeight_37 trw_number_37 trw_lane_37 trw_looks_37 tra_a_37 _ _ _ (show 1 ≤ 1 ∧ 1 ≤ 5 from by omega) (show (-1) ≤ trw_number_37.toInt ∧ trw_number_37.toInt ≤ 7 from by omega) (show 5 - 1 < ((6 : Nat) : Int) from by omega) hF hP hD hS (lv_sub hl [0, 1, 2, 3] rfl)
  exact hlp_37 10 0 r_1 (-1) (-1) o_4 o_5 o_6 o_11 _ _ _ (show 0 ≤ 0 ∧ 0 ≤ 8 from by omega) (show (-1) ≤ o_4.toInt ∧ o_4.toInt ≤ 7 from by omega) (show 8 - 0 < ((10 : Nat) : Int) from by omega) hF hP hD hS (lv_sub hl [0, 1, 2] rfl)
